set_option maxHeartbeats 4000000 in
set_option maxRecDepth 100000 in
/-- settled -/
theorem kX1_settled (l : Launch) (dC : Nat → ClassId) (dI : Nat → Nat → Nat) (cI cZ cA : ClassId) (a : Nat → Nat) (sz : Nat) (th : Nat) (n : Nat) (wv : Nat → Int32) (lo : Nat → Int32) (cf : Nat → Nat) (tf : Nat → Nat) (vs : Nat → Int32) (nr : Nat → Nat) (j d : Nat)  (hd : d < 8) (hG : Gok n wv lo cf tf) (hj : j < n)  : Met l yX1_settled wsX1_settled ({ frames := 5, cells := 0, slots := 0, locals := 113 }) (va_Pc [.ref (a 0), .int (nI j), .int (nI d)] (WP dC dI (GT cI cZ cA) (MW cI cZ a th n wv lo cf tf vs nr) sz)) (va_Qi (fun r (vs1 : Nat → Int32) => r = nI (set_ (fun e => vv wv lo cf tf e j) (vv wv lo cf tf d j) d)) (fun vs1 => WQ dC dI (GT cI cZ cA) (va_A (MW cI cZ a th n wv lo cf tf vs nr) sz) (MW cI cZ a 0 n wv lo cf tf vs1 nr)) (va_A (MW cI cZ a th n wv lo cf tf vs nr) sz)) 0 0 (va_A (MW cI cZ a th n wv lo cf tf vs nr) sz) := by
  refine Met.ofW (cc := cX1_settled) (maxL := 5) (ret := (some .int)) (by decide) rfl ?_
  intro p e s m args below meth c s₁ B hml hv
  obtain ⟨rfl, hsz, hP, hK, hD0⟩ := hv
  have hx := B.exec
  have hb := B.bytes
  have hr := B.returns
  have hts := atoms_spec (ws := wsX1_settled) B.pre
  have hown : s.vm.findClass RX1 = some m.cls := findClass_of_methodNamed B.named
  have hlocks := B.notSynchronized
  subst hsz
  have hD := hD0.self (sz := s.heap.size)
  generalize hAe : va_A (MW cI cZ a th n wv lo cf tf vs nr) s.heap.size = A at hD ⊢
  have hA : ∀ q : Nat, s.heap.size ≤ q → A q := fun q h => by rw [← hAe]; exact Or.inr h
  have hS : va_S A s.heap s.heap [] := va_S.rf
  have hP : va_P (dC, dI) vwCl (MW cI cZ a th n wv lo cf tf vs nr) s.heap := hP
  have hl := lv_entry ([.ref (a 0), .int (nI j), .int (nI d)]) (n := 5) (Nat.le_of_ble_eq_true rfl)
  rw [lg_entry_eq]
  generalize (lg_sl ([.ref (a 0), .int (nI j), .int (nI d)]) ++ List.replicate (5 - (lg_sl ([.ref (a 0), .int (nI j), .int (nI d)])).length) Slot.unset).toArray = ls at hl ⊢
  have hl : lv_has ls 5 [(0, .ref (a 0)), (1, .int (nI j)), (2, .int (nI d))] := hl
  obtain ⟨hn4, hwr, hc, htt, hlo, hz0⟩ := id hG
  have hcj := hc j hj
  refine lv_aload_n hx hb dX1_settled_0 rfl (lv_at hl 0 rfl) ?_
  refine lv_iload_n hx hb dX1_settled_1 rfl (lv_at hl 1 rfl) ?_
  refine lv_iload_n hx hb dX1_settled_2 rfl (lv_at hl 2 rfl) ?_
  have hF := freeAll hD hS hA
  refine va_calli (va_runV (As := [.int (nI j), .int (nI d)]) (rest := []) ⟨hx, hb, hml, hown, hts⟩ (kX1_asked l dC dI cI cZ cA a s.heap.size th n wv lo cf tf vs nr j d hd hG hj) (cwV 2 hts gX1_settled_X1_asked rfl rfl rfl (by decide +kernel) ⟨Nat.le_of_ble_eq_true rfl, Nat.le_of_ble_eq_true rfl⟩) ⟨blindW, va_recv hK hP (ci := 1) (q0 := 0) rfl rfl, preW hP hK hD⟩ rfl rfl hl.1 rfl (lv_room (Nat.le_of_ble_eq_true rfl)) dX1_settled_3 ⟨Nat.zero_le _, Nat.zero_le _⟩) hS (fun q _ h => hF q h) hF (fun r_ vs1 tS H1 locs htS hvm hw hB hz1 hk1 hS => ?_)
  obtain ⟨rfl, hV⟩ : r_ = 1 ∧ Vok n wv lo cf tf d vs1 := hw
  obtain ⟨hP1, hK1, hD1⟩ := hB
  rw [htS] at hP1
  have hP : va_P (dC, dI) vwCl (MW cI cZ a 0 n wv lo cf tf vs1 nr) H1 := hP1
  have hD : va_D A (MW cI cZ a 0 n wv lo cf tf vs1 nr) := hD1.weaken (fun _ _ _ h => hF _ h)
  generalize H1 = H at hP hS ⊢
  refine W.eq (g2 := F0 m 6 ls [.int 1]) rfl ?_
  refine lv_if_ne (tgt := 11) hx hb dX1_settled_6 (by decide) (fun h6 => ?_) (fun h6 => absurd h6 (by decide))
  refine lv_iload_n hx hb dX1_settled_11 rfl (lv_at hl 2 rfl) ?_
  refine lv_istore_n (lv' := [(3, .int (nI d)), (0, .ref (a 0)), (1, .int (nI j)), (2, .int (nI d))]) hx hb dX1_settled_12 rfl hl (by decide) rfl (fun ls hl => ?_)
  refine lv_iload_n hx hb dX1_settled_13 rfl (lv_at hl 3 rfl) ?_
  refine lv_istore (lv' := [(4, .int (nI d)), (3, .int (nI d)), (0, .ref (a 0)), (1, .int (nI j)), (2, .int (nI d))]) hx hb dX1_settled_14 hl (by decide) rfl (fun ls hl => ?_)
  have loop : ∀ k : Nat, k ≤ d → ∀ L : Nat, (vv wv lo cf tf k j = vv wv lo cf tf d j → set_ (fun e => vv wv lo cf tf e j) (vv wv lo cf tf d j) d = set_ (fun e => vv wv lo cf tf e j) (vv wv lo cf tf d j) k) → (¬ vv wv lo cf tf k j = vv wv lo cf tf d j → set_ (fun e => vv wv lo cf tf e j) (vv wv lo cf tf d j) d = L) → ∀ ls : Array Slot, lv_has ls 5 [(4, .int (nI k)), (3, .int (nI L)), (0, .ref (a 0)), (1, .int (nI j)), (2, .int (nI d))] → W p l e (headSpec wsX1_settled (({ frames := 5, cells := 0, slots := 0, locals := 113 }) : Room)).room s m ([.ref (a 0), .int (nI j), .int (nI d)] : List Value).toArray below meth c H locs 0 0 (MQ below (va_Qi (fun r (vs1 : Nat → Int32) => r = nI (set_ (fun e => vv wv lo cf tf e j) (vv wv lo cf tf d j) d)) (fun vs1 => WQ dC dI (GT cI cZ cA) A (MW cI cZ a 0 n wv lo cf tf vs1 nr)) A) ([.ref (a 0), .int (nI j), .int (nI d)] : List Value).toArray s 0 0 A) (F0 m 16 ls []) := by
    intro k
    induction k with
    | zero =>
      intro hk L c1 c2 ls hl
      refine lv_iload hx hb dX1_settled_16 (lv_at hl 0 rfl) ?_
      refine lv_if_lt (tgt := 46) hx hb dX1_settled_18 (by decide) (fun h18 => absurd h18 (nI_pos (by omega))) (fun h18 => ?_)
      refine lv_aload_n hx hb dX1_settled_21 rfl (lv_at hl 2 rfl) ?_
      refine lv_iload_n hx hb dX1_settled_22 rfl (lv_at hl 3 rfl) ?_
      refine lv_iload hx hb dX1_settled_23 (lv_at hl 0 rfl) ?_
      refine W.callR (r := vs1 (400 * 0 + j)) (W.runV (As := [.int (nI j), .int (nI 0)]) (rest := []) ⟨hx, hb, hml, hown, hts⟩ (kX1_valueOf l dC dI cI cZ cA a 0 n wv lo cf tf vs1 nr j 0 (by omega) (by omega)) (cwV 2 hts gX1_settled_X1_valueOf rfl rfl rfl (by decide +kernel) ⟨Nat.le_of_ble_eq_true rfl, Nat.le_of_ble_eq_true rfl⟩) ⟨blindR, va_recv hK hP (ci := 1) (q0 := 0) rfl rfl, preR hP hK⟩ rfl rfl hl.1 rfl (lv_room (Nat.le_of_ble_eq_true rfl)) dX1_settled_25 ⟨Nat.zero_le _, Nat.zero_le _⟩) ?_
      refine W.eq (g2 := F0 m 28 ls [.int (vs1 (400 * 0 + j))]) rfl ?_
      refine ga_is (y := vv wv lo cf tf 0 j) (hV _ hk j hj) ?_
      refine lv_aload_n hx hb dX1_settled_28 rfl (lv_at hl 2 rfl) ?_
      refine lv_iload_n hx hb dX1_settled_29 rfl (lv_at hl 3 rfl) ?_
      refine lv_iload_n hx hb dX1_settled_30 rfl (lv_at hl 4 rfl) ?_
      refine W.callR (r := vs1 (400 * d + j)) (W.runV (As := [.int (nI j), .int (nI d)]) (rest := [.int (vv wv lo cf tf 0 j)]) ⟨hx, hb, hml, hown, hts⟩ (kX1_valueOf l dC dI cI cZ cA a 0 n wv lo cf tf vs1 nr j d hd (by omega)) (cwV 2 hts gX1_settled_X1_valueOf rfl rfl rfl (by decide +kernel) ⟨Nat.le_of_ble_eq_true rfl, Nat.le_of_ble_eq_true rfl⟩) ⟨blindR, va_recv hK hP (ci := 1) (q0 := 0) rfl rfl, preR hP hK⟩ rfl rfl hl.1 rfl (lv_room (Nat.le_of_ble_eq_true rfl)) dX1_settled_31 ⟨Nat.zero_le _, Nat.zero_le _⟩) ?_
      refine W.eq (g2 := F0 m 34 ls [.int (vs1 (400 * d + j)), .int (vv wv lo cf tf 0 j)]) rfl ?_
      refine ga_is (y := vv wv lo cf tf d j) (hV d (Nat.le_refl _) j hj) ?_
      refine lv_icmp_ne (tgt := 46) hx hb dX1_settled_34 (by decide) (fun h34 => ?_) (fun h34 => ?_)
      · refine lv_iload_n hx hb dX1_settled_46 rfl (lv_at hl 1 rfl) ?_
        exact W.iret (v := (nI L)) hx hb hr (fun t ht hW => ⟨⟨(nI L), vs1, rfl, by rw [c2 h34], by rw [ht]; exact hP, va_K.moved hW.alike hK, hD⟩, hS.F ht⟩) hS.2.2 dX1_settled_47
      · refine lv_iload hx hb dX1_settled_37 (lv_at hl 0 rfl) ?_
        refine lv_istore_n (lv' := [(3, .int (nI 0)), (4, .int (nI 0)), (0, .ref (a 0)), (1, .int (nI j)), (2, .int (nI d))]) hx hb dX1_settled_39 rfl hl (by decide) rfl (fun ls hl => ?_)
        refine lv_iinc (v := (-1)) (lv' := [(4, .int (-1)), (3, .int (nI 0)), (0, .ref (a 0)), (1, .int (nI j)), (2, .int (nI d))]) hx hb dX1_settled_40 hl (k := 1) rfl (by decide +kernel) (by decide) rfl (fun ls hl => ?_)
        refine lv_goto (tgt := 16) hx hb dX1_settled_43 (by decide) ?_
        refine lv_iload hx hb dX1_settled_16 (lv_at hl 0 rfl) ?_
        refine lv_if_lt (tgt := 46) hx hb dX1_settled_18 (by decide) (fun h18b => ?_) (fun h18b => absurd (show (-1 : Int32) < 0 by decide) h18b)
        refine lv_iload_n hx hb dX1_settled_46 rfl (lv_at hl 1 rfl) ?_
        exact W.iret (v := (nI 0)) hx hb hr (fun t ht hW => ⟨⟨(nI 0), vs1, rfl, by rw [c1 h34]; rfl, by rw [ht]; exact hP, va_K.moved hW.alike hK, hD⟩, hS.F ht⟩) hS.2.2 dX1_settled_47
    | succ k ih =>
      intro hk L c1 c2 ls hl
      refine lv_iload hx hb dX1_settled_16 (lv_at hl 0 rfl) ?_
      refine lv_if_lt (tgt := 46) hx hb dX1_settled_18 (by decide) (fun h18 => absurd h18 (nI_pos (by omega))) (fun h18 => ?_)
      refine lv_aload_n hx hb dX1_settled_21 rfl (lv_at hl 2 rfl) ?_
      refine lv_iload_n hx hb dX1_settled_22 rfl (lv_at hl 3 rfl) ?_
      refine lv_iload hx hb dX1_settled_23 (lv_at hl 0 rfl) ?_
      refine W.callR (r := vs1 (400 * (k + 1) + j)) (W.runV (As := [.int (nI j), .int (nI (k + 1))]) (rest := []) ⟨hx, hb, hml, hown, hts⟩ (kX1_valueOf l dC dI cI cZ cA a 0 n wv lo cf tf vs1 nr j (k + 1) (by omega) (by omega)) (cwV 2 hts gX1_settled_X1_valueOf rfl rfl rfl (by decide +kernel) ⟨Nat.le_of_ble_eq_true rfl, Nat.le_of_ble_eq_true rfl⟩) ⟨blindR, va_recv hK hP (ci := 1) (q0 := 0) rfl rfl, preR hP hK⟩ rfl rfl hl.1 rfl (lv_room (Nat.le_of_ble_eq_true rfl)) dX1_settled_25 ⟨Nat.zero_le _, Nat.zero_le _⟩) ?_
      refine W.eq (g2 := F0 m 28 ls [.int (vs1 (400 * (k + 1) + j))]) rfl ?_
      refine ga_is (y := vv wv lo cf tf (k + 1) j) (hV _ hk j hj) ?_
      refine lv_aload_n hx hb dX1_settled_28 rfl (lv_at hl 2 rfl) ?_
      refine lv_iload_n hx hb dX1_settled_29 rfl (lv_at hl 3 rfl) ?_
      refine lv_iload_n hx hb dX1_settled_30 rfl (lv_at hl 4 rfl) ?_
      refine W.callR (r := vs1 (400 * d + j)) (W.runV (As := [.int (nI j), .int (nI d)]) (rest := [.int (vv wv lo cf tf (k + 1) j)]) ⟨hx, hb, hml, hown, hts⟩ (kX1_valueOf l dC dI cI cZ cA a 0 n wv lo cf tf vs1 nr j d hd (by omega)) (cwV 2 hts gX1_settled_X1_valueOf rfl rfl rfl (by decide +kernel) ⟨Nat.le_of_ble_eq_true rfl, Nat.le_of_ble_eq_true rfl⟩) ⟨blindR, va_recv hK hP (ci := 1) (q0 := 0) rfl rfl, preR hP hK⟩ rfl rfl hl.1 rfl (lv_room (Nat.le_of_ble_eq_true rfl)) dX1_settled_31 ⟨Nat.zero_le _, Nat.zero_le _⟩) ?_
      refine W.eq (g2 := F0 m 34 ls [.int (vs1 (400 * d + j)), .int (vv wv lo cf tf (k + 1) j)]) rfl ?_
      refine ga_is (y := vv wv lo cf tf d j) (hV d (Nat.le_refl _) j hj) ?_
      refine lv_icmp_ne (tgt := 46) hx hb dX1_settled_34 (by decide) (fun h34 => ?_) (fun h34 => ?_)
      · refine lv_iload_n hx hb dX1_settled_46 rfl (lv_at hl 1 rfl) ?_
        exact W.iret (v := (nI L)) hx hb hr (fun t ht hW => ⟨⟨(nI L), vs1, rfl, by rw [c2 h34], by rw [ht]; exact hP, va_K.moved hW.alike hK, hD⟩, hS.F ht⟩) hS.2.2 dX1_settled_47
      · refine lv_iload hx hb dX1_settled_37 (lv_at hl 0 rfl) ?_
        refine lv_istore_n (lv' := [(3, .int (nI (k + 1))), (4, .int (nI (k + 1))), (0, .ref (a 0)), (1, .int (nI j)), (2, .int (nI d))]) hx hb dX1_settled_39 rfl hl (by decide) rfl (fun ls hl => ?_)
        refine lv_iinc (v := nI k) (lv' := [(4, .int (nI k)), (3, .int (nI (k + 1))), (0, .ref (a 0)), (1, .int (nI j)), (2, .int (nI d))]) hx hb dX1_settled_40 hl (k := 1) rfl (pk_m1 k) (by decide) rfl (fun ls hl => ?_)
        refine lv_goto (tgt := 16) hx hb dX1_settled_43 (by decide) ?_
        exact ih (by omega) (k + 1) (fun e => by rw [c1 h34, set_, if_pos e]) (fun e => by rw [c1 h34, set_, if_neg e]) ls (lv_sub hl [0, 1, 2, 3, 4] rfl)
  exact loop d (Nat.le_refl _) d (fun _ => rfl) (fun e => absurd rfl e) ls (lv_sub hl [0, 1, 2, 3, 4] rfl)
set_option maxHeartbeats 4000000 in
set_option maxRecDepth 100000 in
/-- settled, refused -/
theorem kX1_settled_no (l : Launch) (dC : Nat → ClassId) (dI : Nat → Nat → Nat) (cI cZ cA : ClassId) (a : Nat → Nat) (sz : Nat) (th : Nat) (n : Nat) (wv : Nat → Int32) (lo : Nat → Int32) (cf : Nat → Nat) (tf : Nat → Nat) (vs : Nat → Int32) (nr : Nat → Nat) (x d : Int32)  (hB : Bad n x d) : Met l yX1_settled wsX1_settled ({ frames := 5, cells := 0, slots := 0, locals := 113 }) (va_Pc [.ref (a 0), .int x, .int d] (WP dC dI (GT cI cZ cA) (MW cI cZ a th n wv lo cf tf vs nr) sz)) (va_Qi (fun r (_ : Unit) => r = 0) (fun (_ : Unit) => WQ dC dI (GT cI cZ cA) (va_A (MW cI cZ a th n wv lo cf tf vs nr) sz) (MW cI cZ a 1 n wv lo cf tf vs nr)) (va_A (MW cI cZ a th n wv lo cf tf vs nr) sz)) 0 0 (va_A (MW cI cZ a th n wv lo cf tf vs nr) sz) := by
  refine Met.ofW (cc := cX1_settled) (maxL := 5) (ret := (some .int)) (by decide) rfl ?_
  intro p e s m args below meth c s₁ B hml hv
  obtain ⟨rfl, hsz, hP, hK, hD0⟩ := hv
  have hx := B.exec
  have hb := B.bytes
  have hr := B.returns
  have hts := atoms_spec (ws := wsX1_settled) B.pre
  have hown : s.vm.findClass RX1 = some m.cls := findClass_of_methodNamed B.named
  have hlocks := B.notSynchronized
  subst hsz
  have hD := hD0.self (sz := s.heap.size)
  generalize hAe : va_A (MW cI cZ a th n wv lo cf tf vs nr) s.heap.size = A at hD ⊢
  have hA : ∀ q : Nat, s.heap.size ≤ q → A q := fun q h => by rw [← hAe]; exact Or.inr h
  have hS : va_S A s.heap s.heap [] := va_S.rf
  have hP : va_P (dC, dI) vwCl (MW cI cZ a th n wv lo cf tf vs nr) s.heap := hP
  have hl := lv_entry ([.ref (a 0), .int x, .int d]) (n := 5) (Nat.le_of_ble_eq_true rfl)
  rw [lg_entry_eq]
  generalize (lg_sl ([.ref (a 0), .int x, .int d]) ++ List.replicate (5 - (lg_sl ([.ref (a 0), .int x, .int d])).length) Slot.unset).toArray = ls at hl ⊢
  have hl : lv_has ls 5 [(0, .ref (a 0)), (1, .int x), (2, .int d)] := hl
  refine lv_aload_n hx hb dX1_settled_0 rfl (lv_at hl 0 rfl) ?_
  refine lv_iload_n hx hb dX1_settled_1 rfl (lv_at hl 1 rfl) ?_
  refine lv_iload_n hx hb dX1_settled_2 rfl (lv_at hl 2 rfl) ?_
  have hF := freeAll hD hS hA
  refine va_calli (va_runV (As := [.int x, .int d]) (rest := []) ⟨hx, hb, hml, hown, hts⟩ (kX1_asked_no l dC dI cI cZ cA a s.heap.size th n wv lo cf tf vs nr x d hB) (cwV 2 hts gX1_settled_X1_asked rfl rfl rfl (by decide +kernel) ⟨Nat.le_of_ble_eq_true rfl, Nat.le_of_ble_eq_true rfl⟩) ⟨blindW, va_recv hK hP (ci := 1) (q0 := 0) rfl rfl, preW hP hK hD⟩ rfl rfl hl.1 rfl (lv_room (Nat.le_of_ble_eq_true rfl)) dX1_settled_3 ⟨Nat.zero_le _, Nat.zero_le _⟩) hS (fun q _ h => hF q h) hF (fun r_ _u tS H1 locs htS hvm hw hB hz1 hk1 hS => ?_)
  obtain rfl : r_ = 0 := hw
  obtain ⟨hP1, hK1, hD1⟩ := hB
  rw [htS] at hP1
  have hP : va_P (dC, dI) vwCl (MW cI cZ a 1 n wv lo cf tf vs nr) H1 := hP1
  have hD : va_D A (MW cI cZ a 1 n wv lo cf tf vs nr) := hD1.weaken (fun _ _ _ h => hF _ h)
  generalize H1 = H at hP hS ⊢
  refine W.eq (g2 := F0 m 6 ls [.int 0]) rfl ?_
  refine lv_if_ne (tgt := 11) hx hb dX1_settled_6 (by decide) (fun h6 => absurd rfl h6) (fun h6 => ?_)
  refine lv_iconst (v := 0) hx hb dX1_settled_9 (by decide) ?_
  exact W.iret (v := 0) hx hb hr (fun t ht hW => ⟨⟨0, (), rfl, rfl, by rw [ht]; exact hP, va_K.moved hW.alike hK, hD⟩, hS.F ht⟩) hS.2.2 dX1_settled_10
set_option maxHeartbeats 4000000 in
set_option maxRecDepth 100000 in
/-- ties -/
theorem kX1_ties (l : Launch) (dC : Nat → ClassId) (dI : Nat → Nat → Nat) (cI cZ cA : ClassId) (a : Nat → Nat) (sz : Nat) (th : Nat) (n : Nat) (wv : Nat → Int32) (lo : Nat → Int32) (cf : Nat → Nat) (tf : Nat → Nat) (vs : Nat → Int32) (nr : Nat → Nat) (j d : Nat)  (hd : d < 8) (hG : Gok n wv lo cf tf) (hj : j < n)  : Met l yX1_ties wsX1_ties ({ frames := 5, cells := 0, slots := 0, locals := 113 }) (va_Pc [.ref (a 0), .int (nI j), .int (nI d)] (WP dC dI (GT cI cZ cA) (MW cI cZ a th n wv lo cf tf vs nr) sz)) (va_Qi (fun r (vs1 : Nat → Int32) => r = nI (tie cf tf (vv wv lo cf tf) j d)) (fun vs1 => WQ dC dI (GT cI cZ cA) (va_A (MW cI cZ a th n wv lo cf tf vs nr) sz) (MW cI cZ a 0 n wv lo cf tf vs1 nr)) (va_A (MW cI cZ a th n wv lo cf tf vs nr) sz)) 0 0 (va_A (MW cI cZ a th n wv lo cf tf vs nr) sz) := by
  refine Met.ofW (cc := cX1_ties) (maxL := 5) (ret := (some .int)) (by decide) rfl ?_
  intro p e s m args below meth c s₁ B hml hv
  obtain ⟨rfl, hsz, hP, hK, hD0⟩ := hv
  have hx := B.exec
  have hb := B.bytes
  have hr := B.returns
  have hts := atoms_spec (ws := wsX1_ties) B.pre
  have hown : s.vm.findClass RX1 = some m.cls := findClass_of_methodNamed B.named
  have hlocks := B.notSynchronized
  have hf_17 := hts (.fieldLink RX1 17 "GraphSearchModel" "many" "[I") (by decide +kernel)
  have hiw : ∀ w ∈ wsX10, w ∈ wsX1_ties := by decide +kernel
  subst hsz
  have hD := hD0.self (sz := s.heap.size)
  generalize hAe : va_A (MW cI cZ a th n wv lo cf tf vs nr) s.heap.size = A at hD ⊢
  have hA : ∀ q : Nat, s.heap.size ≤ q → A q := fun q h => by rw [← hAe]; exact Or.inr h
  have hS : va_S A s.heap s.heap [] := va_S.rf
  have hP : va_P (dC, dI) vwCl (MW cI cZ a th n wv lo cf tf vs nr) s.heap := hP
  have hl := lv_entry ([.ref (a 0), .int (nI j), .int (nI d)]) (n := 5) (Nat.le_of_ble_eq_true rfl)
  rw [lg_entry_eq]
  generalize (lg_sl ([.ref (a 0), .int (nI j), .int (nI d)]) ++ List.replicate (5 - (lg_sl ([.ref (a 0), .int (nI j), .int (nI d)])).length) Slot.unset).toArray = ls at hl ⊢
  have hl : lv_has ls 5 [(0, .ref (a 0)), (1, .int (nI j)), (2, .int (nI d))] := hl
  obtain ⟨hn4, hwr, hc, htt, hlo, hz0⟩ := id hG
  have hcj := hc j hj
  refine lv_aload_n hx hb dX1_ties_0 rfl (lv_at hl 0 rfl) ?_
  refine lv_iload_n hx hb dX1_ties_1 rfl (lv_at hl 1 rfl) ?_
  refine lv_iload_n hx hb dX1_ties_2 rfl (lv_at hl 2 rfl) ?_
  have hF := freeAll hD hS hA
  refine va_calli (va_runV (As := [.int (nI j), .int (nI d)]) (rest := []) ⟨hx, hb, hml, hown, hts⟩ (kX1_asked l dC dI cI cZ cA a s.heap.size th n wv lo cf tf vs nr j d hd hG hj) (cwV 2 hts gX1_ties_X1_asked rfl rfl rfl (by decide +kernel) ⟨Nat.le_of_ble_eq_true rfl, Nat.le_of_ble_eq_true rfl⟩) ⟨blindW, va_recv hK hP (ci := 1) (q0 := 0) rfl rfl, preW hP hK hD⟩ rfl rfl hl.1 rfl (lv_room (Nat.le_of_ble_eq_true rfl)) dX1_ties_3 ⟨Nat.zero_le _, Nat.zero_le _⟩) hS (fun q _ h => hF q h) hF (fun r_ vs1 tS H1 locs htS hvm hw hB hz1 hk1 hS => ?_)
  obtain ⟨rfl, hV⟩ : r_ = 1 ∧ Vok n wv lo cf tf d vs1 := hw
  obtain ⟨hP1, hK1, hD1⟩ := hB
  rw [htS] at hP1
  have hP : va_P (dC, dI) vwCl (MW cI cZ a 0 n wv lo cf tf vs1 nr) H1 := hP1
  have hD : va_D A (MW cI cZ a 0 n wv lo cf tf vs1 nr) := hD1.weaken (fun _ _ _ h => hF _ h)
  generalize H1 = H at hP hS ⊢
  refine W.eq (g2 := F0 m 6 ls [.int 1]) rfl ?_
  refine lv_if_eq (tgt := 13) hx hb dX1_ties_6 (by decide) (fun h6 => absurd h6 (by decide)) (fun h6 => ?_)
  refine lv_iload_n hx hb dX1_ties_9 rfl (lv_at hl 2 rfl) ?_
  refine lv_if_ne (tgt := 15) hx hb dX1_ties_10 (by decide) (fun h10 => ?_) (fun h10 => ?_)
  · obtain ⟨d, rfl⟩ : ∃ k, d = k + 1 := Nat.exists_eq_succ_of_ne_zero (fun z => h10 (by rw [z]; rfl))
    refine lv_iconst (v := 0) hx hb dX1_ties_15 (by decide) ?_
    refine ga_is (y := nI 0) (rfl) ?_
    refine lv_istore_n (lv' := [(3, .int (nI 0)), (0, .ref (a 0)), (1, .int (nI j)), (2, .int (nI (d + 1)))]) hx hb dX1_ties_16 rfl hl (by decide) rfl (fun ls hl => ?_)
    refine lv_iconst (v := 0) hx hb dX1_ties_17 (by decide) ?_
    refine ga_is (y := nI 0) (rfl) ?_
    refine lv_istore (lv' := [(4, .int (nI 0)), (3, .int (nI 0)), (0, .ref (a 0)), (1, .int (nI j)), (2, .int (nI (d + 1)))]) hx hb dX1_ties_18 hl (by decide) rfl (fun ls hl => ?_)
    have loop : ∀ k i : Nat, i + k = cf j → ∀ ls : Array Slot, lv_has ls 5 [(4, .int (nI i)), (3, .int (nI (cnt_ (gv tf (vv wv lo cf tf d) j) (vv wv lo cf tf (d + 1) j) i))), (0, .ref (a 0)), (1, .int (nI j)), (2, .int (nI (d + 1)))] → W p l e (headSpec wsX1_ties (({ frames := 5, cells := 0, slots := 0, locals := 113 }) : Room)).room s m ([.ref (a 0), .int (nI j), .int (nI (d + 1))] : List Value).toArray below meth c H locs 0 0 (MQ below (va_Qi (fun r (vs1 : Nat → Int32) => r = nI (tie cf tf (vv wv lo cf tf) j (d + 1))) (fun vs1 => WQ dC dI (GT cI cZ cA) A (MW cI cZ a 0 n wv lo cf tf vs1 nr)) A) ([.ref (a 0), .int (nI j), .int (nI (d + 1))] : List Value).toArray s 0 0 A) (F0 m 20 ls []) := by
      intro k
      induction k with
      | zero =>
        intro i hi ls hl
        obtain rfl : i = cf j := by omega
        refine lv_iload hx hb dX1_ties_20 (lv_at hl 0 rfl) ?_
        refine lv_aload_n hx hb dX1_ties_22 rfl (lv_at hl 2 rfl) ?_
        refine va_get (D := (dC, dI)) (ci := 1) (v := .ref (a 3)) (C := RX1) (T := TX1) (N := 8) hx hb hts hiw hown hK hP 0 rfl rfl 4 (by decide) hf_17 (fun _ h9 => h9) rfl dX1_ties_23 ?_
        refine lv_iload_n hx hb dX1_ties_26 rfl (lv_at hl 3 rfl) ?_
        refine ga_iald hx hb hK hP 3 0 rfl rfl j (v := nI (cf j)) rfl (by omega) (by decide) dX1_ties_27 ?_
        refine lv_icmp_ge (tgt := 62) hx hb dX1_ties_28 (by decide) (fun h28 => ?_) (fun h28 => absurd (Int32.le_refl _) h28)
        refine lv_iload_n hx hb dX1_ties_62 rfl (lv_at hl 1 rfl) ?_
        exact W.iret (v := (nI (cnt_ (gv tf (vv wv lo cf tf d) j) (vv wv lo cf tf (d + 1) j) (cf j)))) hx hb hr (fun t ht hW => ⟨⟨(nI (cnt_ (gv tf (vv wv lo cf tf d) j) (vv wv lo cf tf (d + 1) j) (cf j))), vs1, rfl, rfl, by rw [ht]; exact hP, va_K.moved hW.alike hK, hD⟩, hS.F ht⟩) hS.2.2 dX1_ties_63
      | succ k ih =>
        intro i hi ls hl
        refine lv_iload hx hb dX1_ties_20 (lv_at hl 0 rfl) ?_
        refine lv_aload_n hx hb dX1_ties_22 rfl (lv_at hl 2 rfl) ?_
        refine va_get (D := (dC, dI)) (ci := 1) (v := .ref (a 3)) (C := RX1) (T := TX1) (N := 8) hx hb hts hiw hown hK hP 0 rfl rfl 4 (by decide) hf_17 (fun _ h9 => h9) rfl dX1_ties_23 ?_
        refine lv_iload_n hx hb dX1_ties_26 rfl (lv_at hl 3 rfl) ?_
        refine ga_iald hx hb hK hP 3 0 rfl rfl j (v := nI (cf j)) rfl (by omega) (by decide) dX1_ties_27 ?_
        refine lv_icmp_ge (tgt := 62) hx hb dX1_ties_28 (by decide) (fun h28 => absurd h28 (nI_ge (by omega) (by omega))) (fun h28 => ?_)
        refine lv_iload_n hx hb dX1_ties_31 rfl (lv_at hl 1 rfl) ?_
        refine lv_aload_n hx hb dX1_ties_32 rfl (lv_at hl 2 rfl) ?_
        refine lv_iload_n hx hb dX1_ties_33 rfl (lv_at hl 3 rfl) ?_
        refine lv_iload hx hb dX1_ties_34 (lv_at hl 0 rfl) ?_
        refine lv_iload_n hx hb dX1_ties_36 rfl (lv_at hl 4 rfl) ?_
        refine W.callR (r := gv tf (fun y => vs1 (400 * d + y)) j i) (W.runV (As := [.int (nI j), .int (nI i), .int (nI (d + 1))]) (rest := [.int (nI (cnt_ (gv tf (vv wv lo cf tf d) j) (vv wv lo cf tf (d + 1) j) i))]) ⟨hx, hb, hml, hown, hts⟩ (kX1_given l dC dI cI cZ cA a 0 n wv lo cf tf vs1 nr j i d (by omega) (by omega) (by have := htt j hj i (by omega); omega)) (cwV 3 hts gX1_ties_X1_given rfl rfl rfl (by decide +kernel) ⟨Nat.le_of_ble_eq_true rfl, Nat.le_of_ble_eq_true rfl⟩) ⟨blindR, va_recv hK hP (ci := 1) (q0 := 0) rfl rfl, preR hP hK⟩ rfl rfl hl.1 rfl (lv_room (Nat.le_of_ble_eq_true rfl)) dX1_ties_37 ⟨Nat.zero_le _, Nat.zero_le _⟩) ?_
        refine W.eq (g2 := F0 m 40 ls [.int (gv tf (fun y => vs1 (400 * d + y)) j i), .int (nI (cnt_ (gv tf (vv wv lo cf tf d) j) (vv wv lo cf tf (d + 1) j) i))]) rfl ?_
        refine ga_is (y := gv tf (vv wv lo cf tf d) j i) (gv_congr (hV d (by omega) _ (htt j hj i (by omega)))) ?_
        refine lv_aload_n hx hb dX1_ties_40 rfl (lv_at hl 2 rfl) ?_
        refine lv_iload_n hx hb dX1_ties_41 rfl (lv_at hl 3 rfl) ?_
        refine lv_iload_n hx hb dX1_ties_42 rfl (lv_at hl 4 rfl) ?_
        refine W.callR (r := vs1 (400 * (d + 1) + j)) (W.runV (As := [.int (nI j), .int (nI (d + 1))]) (rest := [.int (gv tf (vv wv lo cf tf d) j i), .int (nI (cnt_ (gv tf (vv wv lo cf tf d) j) (vv wv lo cf tf (d + 1) j) i))]) ⟨hx, hb, hml, hown, hts⟩ (kX1_valueOf l dC dI cI cZ cA a 0 n wv lo cf tf vs1 nr j (d + 1) hd (by omega)) (cwV 2 hts gX1_ties_X1_valueOf rfl rfl rfl (by decide +kernel) ⟨Nat.le_of_ble_eq_true rfl, Nat.le_of_ble_eq_true rfl⟩) ⟨blindR, va_recv hK hP (ci := 1) (q0 := 0) rfl rfl, preR hP hK⟩ rfl rfl hl.1 rfl (lv_room (Nat.le_of_ble_eq_true rfl)) dX1_ties_43 ⟨Nat.zero_le _, Nat.zero_le _⟩) ?_
        refine W.eq (g2 := F0 m 46 ls [.int (vs1 (400 * (d + 1) + j)), .int (gv tf (vv wv lo cf tf d) j i), .int (nI (cnt_ (gv tf (vv wv lo cf tf d) j) (vv wv lo cf tf (d + 1) j) i))]) rfl ?_
        refine ga_is (y := vv wv lo cf tf (d + 1) j) (hV _ (Nat.le_refl _) j hj) ?_
        refine lv_icmp_ne (tgt := 53) hx hb dX1_ties_46 (by decide) (fun h46 => ?_) (fun h46 => ?_)
        · refine lv_iconst (v := 0) hx hb dX1_ties_53 (by decide) ?_
          refine lv_iadd hx hb dX1_ties_54 ?_
          refine ga_is (y := nI (cnt_ (gv tf (vv wv lo cf tf d) j) (vv wv lo cf tf (d + 1) j) (i + 1))) (by rw [cnt_, if_neg h46]; exact nI_add _ 0) ?_
          refine lv_istore_n (lv' := [(3, .int (nI (cnt_ (gv tf (vv wv lo cf tf d) j) (vv wv lo cf tf (d + 1) j) (i + 1)))), (4, .int (nI i)), (0, .ref (a 0)), (1, .int (nI j)), (2, .int (nI (d + 1)))]) hx hb dX1_ties_55 rfl hl (by decide) rfl (fun ls hl => ?_)
          refine lv_iinc (v := nI (i + 1)) (lv' := [(4, .int (nI (i + 1))), (3, .int (nI (cnt_ (gv tf (vv wv lo cf tf d) j) (vv wv lo cf tf (d + 1) j) (i + 1)))), (0, .ref (a 0)), (1, .int (nI j)), (2, .int (nI (d + 1)))]) hx hb dX1_ties_56 hl (k := 1) rfl (nI_1 i) (by decide) rfl (fun ls hl => ?_)
          refine lv_goto (tgt := 20) hx hb dX1_ties_59 (by decide) ?_
          exact ih (i + 1) (by omega) ls (lv_sub hl [0, 1, 2, 3, 4] rfl)
        · refine lv_iconst (v := 1) hx hb dX1_ties_49 (by decide) ?_
          refine lv_goto (tgt := 54) hx hb dX1_ties_50 (by decide) ?_
          refine lv_iadd hx hb dX1_ties_54 ?_
          refine ga_is (y := nI (cnt_ (gv tf (vv wv lo cf tf d) j) (vv wv lo cf tf (d + 1) j) (i + 1))) (by rw [cnt_, if_pos h46]; exact nI_1 _) ?_
          refine lv_istore_n (lv' := [(3, .int (nI (cnt_ (gv tf (vv wv lo cf tf d) j) (vv wv lo cf tf (d + 1) j) (i + 1)))), (4, .int (nI i)), (0, .ref (a 0)), (1, .int (nI j)), (2, .int (nI (d + 1)))]) hx hb dX1_ties_55 rfl hl (by decide) rfl (fun ls hl => ?_)
          refine lv_iinc (v := nI (i + 1)) (lv' := [(4, .int (nI (i + 1))), (3, .int (nI (cnt_ (gv tf (vv wv lo cf tf d) j) (vv wv lo cf tf (d + 1) j) (i + 1)))), (0, .ref (a 0)), (1, .int (nI j)), (2, .int (nI (d + 1)))]) hx hb dX1_ties_56 hl (k := 1) rfl (nI_1 i) (by decide) rfl (fun ls hl => ?_)
          refine lv_goto (tgt := 20) hx hb dX1_ties_59 (by decide) ?_
          exact ih (i + 1) (by omega) ls (lv_sub hl [0, 1, 2, 3, 4] rfl)
    exact loop (cf j) 0 (by omega) ls (lv_sub hl [0, 1, 2, 3, 4] rfl)
  · refine lv_iconst (v := 0) hx hb dX1_ties_13 (by decide) ?_
    obtain rfl : d = 0 := (nI_eq (by omega) (by decide)).mp h10
    exact W.iret (v := 0) hx hb hr (fun t ht hW => ⟨⟨0, vs1, rfl, rfl, by rw [ht]; exact hP, va_K.moved hW.alike hK, hD⟩, hS.F ht⟩) hS.2.2 dX1_ties_14
set_option maxHeartbeats 4000000 in
set_option maxRecDepth 100000 in
/-- ties, refused -/
theorem kX1_ties_no (l : Launch) (dC : Nat → ClassId) (dI : Nat → Nat → Nat) (cI cZ cA : ClassId) (a : Nat → Nat) (sz : Nat) (th : Nat) (n : Nat) (wv : Nat → Int32) (lo : Nat → Int32) (cf : Nat → Nat) (tf : Nat → Nat) (vs : Nat → Int32) (nr : Nat → Nat) (x d : Int32)  (hB : Bad n x d) : Met l yX1_ties wsX1_ties ({ frames := 5, cells := 0, slots := 0, locals := 113 }) (va_Pc [.ref (a 0), .int x, .int d] (WP dC dI (GT cI cZ cA) (MW cI cZ a th n wv lo cf tf vs nr) sz)) (va_Qi (fun r (_ : Unit) => r = 0) (fun (_ : Unit) => WQ dC dI (GT cI cZ cA) (va_A (MW cI cZ a th n wv lo cf tf vs nr) sz) (MW cI cZ a 1 n wv lo cf tf vs nr)) (va_A (MW cI cZ a th n wv lo cf tf vs nr) sz)) 0 0 (va_A (MW cI cZ a th n wv lo cf tf vs nr) sz) := by
  refine Met.ofW (cc := cX1_ties) (maxL := 5) (ret := (some .int)) (by decide) rfl ?_
  intro p e s m args below meth c s₁ B hml hv
  obtain ⟨rfl, hsz, hP, hK, hD0⟩ := hv
  have hx := B.exec
  have hb := B.bytes
  have hr := B.returns
  have hts := atoms_spec (ws := wsX1_ties) B.pre
  have hown : s.vm.findClass RX1 = some m.cls := findClass_of_methodNamed B.named
  have hlocks := B.notSynchronized
  have hf_17 := hts (.fieldLink RX1 17 "GraphSearchModel" "many" "[I") (by decide +kernel)
  have hiw : ∀ w ∈ wsX10, w ∈ wsX1_ties := by decide +kernel
  subst hsz
  have hD := hD0.self (sz := s.heap.size)
  generalize hAe : va_A (MW cI cZ a th n wv lo cf tf vs nr) s.heap.size = A at hD ⊢
  have hA : ∀ q : Nat, s.heap.size ≤ q → A q := fun q h => by rw [← hAe]; exact Or.inr h
  have hS : va_S A s.heap s.heap [] := va_S.rf
  have hP : va_P (dC, dI) vwCl (MW cI cZ a th n wv lo cf tf vs nr) s.heap := hP
  have hl := lv_entry ([.ref (a 0), .int x, .int d]) (n := 5) (Nat.le_of_ble_eq_true rfl)
  rw [lg_entry_eq]
  generalize (lg_sl ([.ref (a 0), .int x, .int d]) ++ List.replicate (5 - (lg_sl ([.ref (a 0), .int x, .int d])).length) Slot.unset).toArray = ls at hl ⊢
  have hl : lv_has ls 5 [(0, .ref (a 0)), (1, .int x), (2, .int d)] := hl
  refine lv_aload_n hx hb dX1_ties_0 rfl (lv_at hl 0 rfl) ?_
  refine lv_iload_n hx hb dX1_ties_1 rfl (lv_at hl 1 rfl) ?_
  refine lv_iload_n hx hb dX1_ties_2 rfl (lv_at hl 2 rfl) ?_
  have hF := freeAll hD hS hA
  refine va_calli (va_runV (As := [.int x, .int d]) (rest := []) ⟨hx, hb, hml, hown, hts⟩ (kX1_asked_no l dC dI cI cZ cA a s.heap.size th n wv lo cf tf vs nr x d hB) (cwV 2 hts gX1_ties_X1_asked rfl rfl rfl (by decide +kernel) ⟨Nat.le_of_ble_eq_true rfl, Nat.le_of_ble_eq_true rfl⟩) ⟨blindW, va_recv hK hP (ci := 1) (q0 := 0) rfl rfl, preW hP hK hD⟩ rfl rfl hl.1 rfl (lv_room (Nat.le_of_ble_eq_true rfl)) dX1_ties_3 ⟨Nat.zero_le _, Nat.zero_le _⟩) hS (fun q _ h => hF q h) hF (fun r_ _u tS H1 locs htS hvm hw hB hz1 hk1 hS => ?_)
  obtain rfl : r_ = 0 := hw
  obtain ⟨hP1, hK1, hD1⟩ := hB
  rw [htS] at hP1
  have hP : va_P (dC, dI) vwCl (MW cI cZ a 1 n wv lo cf tf vs nr) H1 := hP1
  have hD : va_D A (MW cI cZ a 1 n wv lo cf tf vs nr) := hD1.weaken (fun _ _ _ h => hF _ h)
  generalize H1 = H at hP hS ⊢
  refine W.eq (g2 := F0 m 6 ls [.int 0]) rfl ?_
  refine lv_if_eq (tgt := 13) hx hb dX1_ties_6 (by decide) (fun h6 => ?_) (fun h6 => absurd rfl h6)
  refine lv_iconst (v := 0) hx hb dX1_ties_13 (by decide) ?_
  exact W.iret (v := 0) hx hb hr (fun t ht hW => ⟨⟨0, (), rfl, rfl, by rw [ht]; exact hP, va_K.moved hW.alike hK, hD⟩, hS.F ht⟩) hS.2.2 dX1_ties_14
set_option maxHeartbeats 4000000 in
set_option maxRecDepth 100000 in
/-- line -/
theorem kX1_line_neg (l : Launch) (dC : Nat → ClassId) (dI : Nat → Nat → Nat) (cI cZ cA : ClassId) (a : Nat → Nat) (sz : Nat) (th : Nat) (n : Nat) (wv : Nat → Int32) (lo : Nat → Int32) (cf : Nat → Nat) (tf : Nat → Nat) (vs : Nat → Int32) (nr : Nat → Nat) (j d : Nat) (i : Int32) (hd : d < 8) (hG : Gok n wv lo cf tf) (hj : j < n) (hi : i < 0) : Met l yX1_line wsX1_line ({ frames := 5, cells := 0, slots := 0, locals := 113 }) (va_Pc [.ref (a 0), .int (nI j), .int (nI d), .int i] (WP dC dI (GT cI cZ cA) (MW cI cZ a th n wv lo cf tf vs nr) sz)) (va_Qi (fun r (vs1 : Nat → Int32) => r = (-1)) (fun vs1 => WQ dC dI (GT cI cZ cA) (va_A (MW cI cZ a th n wv lo cf tf vs nr) sz) (MW cI cZ a 0 n wv lo cf tf vs1 nr)) (va_A (MW cI cZ a th n wv lo cf tf vs nr) sz)) 0 0 (va_A (MW cI cZ a th n wv lo cf tf vs nr) sz) := by
  refine Met.ofW (cc := cX1_line) (maxL := 7) (ret := (some .int)) (by decide) rfl ?_
  intro p e s m args below meth c s₁ B hml hv
  obtain ⟨rfl, hsz, hP, hK, hD0⟩ := hv
  have hx := B.exec
  have hb := B.bytes
  have hr := B.returns
  have hts := atoms_spec (ws := wsX1_line) B.pre
  have hown : s.vm.findClass RX1 = some m.cls := findClass_of_methodNamed B.named
  have hlocks := B.notSynchronized
  have hf_20 := hts (.fieldLink RX1 20 "GraphSearchModel" "to" "[I") (by decide +kernel)
  have hiw : ∀ w ∈ wsX10, w ∈ wsX1_line := by decide +kernel
  subst hsz
  have hD := hD0.self (sz := s.heap.size)
  generalize hAe : va_A (MW cI cZ a th n wv lo cf tf vs nr) s.heap.size = A at hD ⊢
  have hA : ∀ q : Nat, s.heap.size ≤ q → A q := fun q h => by rw [← hAe]; exact Or.inr h
  have hS : va_S A s.heap s.heap [] := va_S.rf
  have hP : va_P (dC, dI) vwCl (MW cI cZ a th n wv lo cf tf vs nr) s.heap := hP
  have hl := lv_entry ([.ref (a 0), .int (nI j), .int (nI d), .int i]) (n := 7) (Nat.le_of_ble_eq_true rfl)
  rw [lg_entry_eq]
  generalize (lg_sl ([.ref (a 0), .int (nI j), .int (nI d), .int i]) ++ List.replicate (7 - (lg_sl ([.ref (a 0), .int (nI j), .int (nI d), .int i])).length) Slot.unset).toArray = ls at hl ⊢
  have hl : lv_has ls 7 [(0, .ref (a 0)), (1, .int (nI j)), (2, .int (nI d)), (3, .int i)] := hl
  obtain ⟨hn4, hwr, hc, htt, hlo, hz0⟩ := id hG
  have hcj := hc j hj
  refine lv_aload_n hx hb dX1_line_0 rfl (lv_at hl 0 rfl) ?_
  refine lv_iload_n hx hb dX1_line_1 rfl (lv_at hl 1 rfl) ?_
  refine lv_iload_n hx hb dX1_line_2 rfl (lv_at hl 2 rfl) ?_
  have hF := freeAll hD hS hA
  refine va_calli (va_runV (As := [.int (nI j), .int (nI d)]) (rest := []) ⟨hx, hb, hml, hown, hts⟩ (kX1_asked l dC dI cI cZ cA a s.heap.size th n wv lo cf tf vs nr j d hd hG hj) (cwV 2 hts gX1_line_X1_asked rfl rfl rfl (by decide +kernel) ⟨Nat.le_of_ble_eq_true rfl, Nat.le_of_ble_eq_true rfl⟩) ⟨blindW, va_recv hK hP (ci := 1) (q0 := 0) rfl rfl, preW hP hK hD⟩ rfl rfl hl.1 rfl (lv_room (Nat.le_of_ble_eq_true rfl)) dX1_line_3 ⟨Nat.zero_le _, Nat.zero_le _⟩) hS (fun q _ h => hF q h) hF (fun r_ vs1 tS H1 locs htS hvm hw hB hz1 hk1 hS => ?_)
  obtain ⟨rfl, hV⟩ : r_ = 1 ∧ Vok n wv lo cf tf d vs1 := hw
  obtain ⟨hP1, hK1, hD1⟩ := hB
  rw [htS] at hP1
  have hP : va_P (dC, dI) vwCl (MW cI cZ a 0 n wv lo cf tf vs1 nr) H1 := hP1
  have hD : va_D A (MW cI cZ a 0 n wv lo cf tf vs1 nr) := hD1.weaken (fun _ _ _ h => hF _ h)
  generalize H1 = H at hP hS ⊢
  refine W.eq (g2 := F0 m 6 ls [.int 1]) rfl ?_
  refine lv_if_ne (tgt := 11) hx hb dX1_line_6 (by decide) (fun h6 => ?_) (fun h6 => absurd h6 (by decide))
  refine lv_iload_n hx hb dX1_line_11 rfl (lv_at hl 3 rfl) ?_
  refine lv_if_ge (tgt := 19) hx hb dX1_line_12 (by decide) (fun h12 => absurd h12 (fun q => by rw [Int32.lt_iff_toInt_lt] at hi; rw [Int32.le_iff_toInt_le] at q; omega)) (fun h12 => ?_)
  refine lv_iconst (v := (-1)) hx hb dX1_line_15 (by decide) ?_
  refine lv_goto (tgt := 20) hx hb dX1_line_16 (by decide) ?_
  refine lv_istore (lv' := [(4, .int (-1)), (0, .ref (a 0)), (1, .int (nI j)), (2, .int (nI d)), (3, .int i)]) hx hb dX1_line_20 hl (by decide) rfl (fun ls hl => ?_)
  refine lv_iconst (v := 0) hx hb dX1_line_22 (by decide) ?_
  refine lv_istore (lv' := [(5, .int 0), (4, .int (-1)), (0, .ref (a 0)), (1, .int (nI j)), (2, .int (nI d)), (3, .int i)]) hx hb dX1_line_23 hl (by decide) rfl (fun ls hl => ?_)
  refine lv_iload hx hb dX1_line_25 (lv_at hl 0 rfl) ?_
  refine lv_iload_n hx hb dX1_line_27 rfl (lv_at hl 5 rfl) ?_
  refine lv_icmp_ge (tgt := 88) hx hb dX1_line_28 (by decide) (fun h28 => ?_) (fun h28 => absurd (by rw [Int32.lt_iff_toInt_lt] at hi; rw [Int32.le_iff_toInt_le]; omega) h28)
  refine lv_iload hx hb dX1_line_88 (lv_at hl 1 rfl) ?_
  exact W.iret (v := (-1)) hx hb hr (fun t ht hW => ⟨⟨(-1), vs1, rfl, rfl, by rw [ht]; exact hP, va_K.moved hW.alike hK, hD⟩, hS.F ht⟩) hS.2.2 dX1_line_90
set_option maxHeartbeats 4000000 in
set_option maxRecDepth 100000 in
/-- line -/
theorem kX1_line (l : Launch) (dC : Nat → ClassId) (dI : Nat → Nat → Nat) (cI cZ cA : ClassId) (a : Nat → Nat) (sz : Nat) (th : Nat) (n : Nat) (wv : Nat → Int32) (lo : Nat → Int32) (cf : Nat → Nat) (tf : Nat → Nat) (vs : Nat → Int32) (nr : Nat → Nat) (j d : Nat) (i : Nat) (hd : d < 8) (hG : Gok n wv lo cf tf) (hj : j < n) (hi : i < 2 ^ 31) : Met l yX1_line wsX1_line ({ frames := 5, cells := 0, slots := 0, locals := 113 }) (va_Pc [.ref (a 0), .int (nI j), .int (nI d), .int (nI i)] (WP dC dI (GT cI cZ cA) (MW cI cZ a th n wv lo cf tf vs nr) sz)) (va_Qi (fun r (vs1 : Nat → Int32) => r = lin cf tf (vv wv lo cf tf) i j d) (fun vs1 => WQ dC dI (GT cI cZ cA) (va_A (MW cI cZ a th n wv lo cf tf vs nr) sz) (MW cI cZ a 0 n wv lo cf tf vs1 nr)) (va_A (MW cI cZ a th n wv lo cf tf vs nr) sz)) 0 0 (va_A (MW cI cZ a th n wv lo cf tf vs nr) sz) := by
  refine Met.ofW (cc := cX1_line) (maxL := 7) (ret := (some .int)) (by decide) rfl ?_
  intro p e s m args below meth c s₁ B hml hv
  obtain ⟨rfl, hsz, hP, hK, hD0⟩ := hv
  have hx := B.exec
  have hb := B.bytes
  have hr := B.returns
  have hts := atoms_spec (ws := wsX1_line) B.pre
  have hown : s.vm.findClass RX1 = some m.cls := findClass_of_methodNamed B.named
  have hlocks := B.notSynchronized
  have hf_20 := hts (.fieldLink RX1 20 "GraphSearchModel" "to" "[I") (by decide +kernel)
  have hiw : ∀ w ∈ wsX10, w ∈ wsX1_line := by decide +kernel
  subst hsz
  have hD := hD0.self (sz := s.heap.size)
  generalize hAe : va_A (MW cI cZ a th n wv lo cf tf vs nr) s.heap.size = A at hD ⊢
  have hA : ∀ q : Nat, s.heap.size ≤ q → A q := fun q h => by rw [← hAe]; exact Or.inr h
  have hS : va_S A s.heap s.heap [] := va_S.rf
  have hP : va_P (dC, dI) vwCl (MW cI cZ a th n wv lo cf tf vs nr) s.heap := hP
  have hl := lv_entry ([.ref (a 0), .int (nI j), .int (nI d), .int (nI i)]) (n := 7) (Nat.le_of_ble_eq_true rfl)
  rw [lg_entry_eq]
  generalize (lg_sl ([.ref (a 0), .int (nI j), .int (nI d), .int (nI i)]) ++ List.replicate (7 - (lg_sl ([.ref (a 0), .int (nI j), .int (nI d), .int (nI i)])).length) Slot.unset).toArray = ls at hl ⊢
  have hl : lv_has ls 7 [(0, .ref (a 0)), (1, .int (nI j)), (2, .int (nI d)), (3, .int (nI i))] := hl
  obtain ⟨hn4, hwr, hc, htt, hlo, hz0⟩ := id hG
  have hcj := hc j hj
  refine lv_aload_n hx hb dX1_line_0 rfl (lv_at hl 0 rfl) ?_
  refine lv_iload_n hx hb dX1_line_1 rfl (lv_at hl 1 rfl) ?_
  refine lv_iload_n hx hb dX1_line_2 rfl (lv_at hl 2 rfl) ?_
  have hF := freeAll hD hS hA
  refine va_calli (va_runV (As := [.int (nI j), .int (nI d)]) (rest := []) ⟨hx, hb, hml, hown, hts⟩ (kX1_asked l dC dI cI cZ cA a s.heap.size th n wv lo cf tf vs nr j d hd hG hj) (cwV 2 hts gX1_line_X1_asked rfl rfl rfl (by decide +kernel) ⟨Nat.le_of_ble_eq_true rfl, Nat.le_of_ble_eq_true rfl⟩) ⟨blindW, va_recv hK hP (ci := 1) (q0 := 0) rfl rfl, preW hP hK hD⟩ rfl rfl hl.1 rfl (lv_room (Nat.le_of_ble_eq_true rfl)) dX1_line_3 ⟨Nat.zero_le _, Nat.zero_le _⟩) hS (fun q _ h => hF q h) hF (fun r_ vs1 tS H1 locs htS hvm hw hB hz1 hk1 hS => ?_)
  obtain ⟨rfl, hV⟩ : r_ = 1 ∧ Vok n wv lo cf tf d vs1 := hw
  obtain ⟨hP1, hK1, hD1⟩ := hB
  rw [htS] at hP1
  have hP : va_P (dC, dI) vwCl (MW cI cZ a 0 n wv lo cf tf vs1 nr) H1 := hP1
  have hD : va_D A (MW cI cZ a 0 n wv lo cf tf vs1 nr) := hD1.weaken (fun _ _ _ h => hF _ h)
  generalize H1 = H at hP hS ⊢
  refine W.eq (g2 := F0 m 6 ls [.int 1]) rfl ?_
  refine lv_if_ne (tgt := 11) hx hb dX1_line_6 (by decide) (fun h6 => ?_) (fun h6 => absurd h6 (by decide))
  refine lv_iload_n hx hb dX1_line_11 rfl (lv_at hl 3 rfl) ?_
  refine lv_if_ge (tgt := 19) hx hb dX1_line_12 (by decide) (fun h12 => ?_) (fun h12 => absurd (nI_pos' hi) h12)
  refine lv_iload_n hx hb dX1_line_19 rfl (lv_at hl 1 rfl) ?_
  refine lv_istore (lv' := [(4, .int (nI j)), (0, .ref (a 0)), (1, .int (nI j)), (2, .int (nI d)), (3, .int (nI i))]) hx hb dX1_line_20 hl (by decide) rfl (fun ls hl => ?_)
  refine lv_iconst (v := 0) hx hb dX1_line_22 (by decide) ?_
  refine ga_is (y := nI 0) (rfl) ?_
  refine lv_istore (lv' := [(5, .int (nI 0)), (4, .int (nI j)), (0, .ref (a 0)), (1, .int (nI j)), (2, .int (nI d)), (3, .int (nI i))]) hx hb dX1_line_23 hl (by decide) rfl (fun ls hl => ?_)
  have done : lin cf tf (vv wv lo cf tf) i j d = (-1) → ∀ (t : Nat) (e6 : Int32), t ≤ i → ∀ ls : Array Slot, lv_has ls 7 [(5, .int (nI t)), (4, .int (-1)), (6, .int e6), (0, .ref (a 0)), (1, .int (nI j)), (2, .int (nI d)), (3, .int (nI i))] → W p l e (headSpec wsX1_line (({ frames := 5, cells := 0, slots := 0, locals := 113 }) : Room)).room s m ([.ref (a 0), .int (nI j), .int (nI d), .int (nI i)] : List Value).toArray below meth c H locs 0 0 (MQ below (va_Qi (fun r (vs1 : Nat → Int32) => r = lin cf tf (vv wv lo cf tf) i j d) (fun vs1 => WQ dC dI (GT cI cZ cA) A (MW cI cZ a 0 n wv lo cf tf vs1 nr)) A) ([.ref (a 0), .int (nI j), .int (nI d), .int (nI i)] : List Value).toArray s 0 0 A) (F0 m 25 ls []) := by
    intro hR t e6 hti ls hl
    refine lv_iload hx hb dX1_line_25 (lv_at hl 0 rfl) ?_
    refine lv_iload_n hx hb dX1_line_27 rfl (lv_at hl 6 rfl) ?_
    refine lv_icmp_ge (tgt := 88) hx hb dX1_line_28 (by decide) (fun h28 => ?_) (fun h28 => ?_)
    · refine lv_iload hx hb dX1_line_88 (lv_at hl 1 rfl) ?_
      exact W.iret (v := (-1)) hx hb hr (fun t ht hW => ⟨⟨(-1), vs1, rfl, hR.symm, by rw [ht]; exact hP, va_K.moved hW.alike hK, hD⟩, hS.F ht⟩) hS.2.2 dX1_line_90
    · refine lv_iload hx hb dX1_line_31 (lv_at hl 1 rfl) ?_
      refine lv_if_lt (tgt := 88) hx hb dX1_line_33 (by decide) (fun h33 => ?_) (fun h33 => absurd (show (-1 : Int32) < 0 by decide) h33)
      refine lv_iload hx hb dX1_line_88 (lv_at hl 1 rfl) ?_
      exact W.iret (v := (-1)) hx hb hr (fun t ht hW => ⟨⟨(-1), vs1, rfl, hR.symm, by rw [ht]; exact hP, va_K.moved hW.alike hK, hD⟩, hS.F ht⟩) hS.2.2 dX1_line_90
  have loop : ∀ k t x : Nat, t + k = i → x < n → lin cf tf (vv wv lo cf tf) k x (d - t) = lin cf tf (vv wv lo cf tf) i j d → ∀ ls : Array Slot, lv_has ls 7 [(5, .int (nI t)), (4, .int (nI x)), (0, .ref (a 0)), (1, .int (nI j)), (2, .int (nI d)), (3, .int (nI i))] → W p l e (headSpec wsX1_line (({ frames := 5, cells := 0, slots := 0, locals := 113 }) : Room)).room s m ([.ref (a 0), .int (nI j), .int (nI d), .int (nI i)] : List Value).toArray below meth c H locs 0 0 (MQ below (va_Qi (fun r (vs1 : Nat → Int32) => r = lin cf tf (vv wv lo cf tf) i j d) (fun vs1 => WQ dC dI (GT cI cZ cA) A (MW cI cZ a 0 n wv lo cf tf vs1 nr)) A) ([.ref (a 0), .int (nI j), .int (nI d), .int (nI i)] : List Value).toArray s 0 0 A) (F0 m 25 ls []) := by
    intro k
    induction k with
    | zero =>
      intro t x ht hxn he ls hl
      obtain rfl : i = t := by omega
      refine lv_iload hx hb dX1_line_25 (lv_at hl 0 rfl) ?_
      refine lv_iload_n hx hb dX1_line_27 rfl (lv_at hl 5 rfl) ?_
      refine lv_icmp_ge (tgt := 88) hx hb dX1_line_28 (by decide) (fun h28 => ?_) (fun h28 => absurd (Int32.le_refl _) h28)
      refine lv_iload hx hb dX1_line_88 (lv_at hl 1 rfl) ?_
      exact W.iret (v := (nI x)) hx hb hr (fun t ht hW => ⟨⟨(nI x), vs1, rfl, by rw [← he]; rfl, by rw [ht]; exact hP, va_K.moved hW.alike hK, hD⟩, hS.F ht⟩) hS.2.2 dX1_line_90
    | succ k ih =>
      intro t x ht hxn he ls hl
      have hcx := hc x hxn
      refine lv_iload hx hb dX1_line_25 (lv_at hl 0 rfl) ?_
      refine lv_iload_n hx hb dX1_line_27 rfl (lv_at hl 5 rfl) ?_
      refine lv_icmp_ge (tgt := 88) hx hb dX1_line_28 (by decide) (fun h28 => absurd h28 (nI_ge (by omega) (by omega))) (fun h28 => ?_)
      refine lv_iload hx hb dX1_line_31 (lv_at hl 1 rfl) ?_
      refine lv_if_lt (tgt := 88) hx hb dX1_line_33 (by decide) (fun h33 => absurd h33 (nI_pos (by omega))) (fun h33 => ?_)
      refine lv_iload hx hb dX1_line_36 (lv_at hl 0 rfl) ?_
      refine lv_iload_n hx hb dX1_line_38 rfl (lv_at hl 4 rfl) ?_
      refine lv_icmp_ge (tgt := 55) hx hb dX1_line_39 (by decide) (fun h39 => ?_) (fun h39 => ?_)
      · have hdt : d - t = 0 := by rcases Nat.lt_or_ge t d with z | z; exact absurd h39 (nI_ge z (by omega)); omega
        have hbm : bm cf tf (vv wv lo cf tf) x (d - t) = (-1) := by rw [hdt]; rfl
        refine lv_iconst (v := (-1)) hx hb dX1_line_55 (by decide) ?_
        refine lv_istore (lv' := [(6, .int (-1)), (5, .int (nI t)), (4, .int (nI x)), (0, .ref (a 0)), (1, .int (nI j)), (2, .int (nI d)), (3, .int (nI i))]) hx hb dX1_line_56 hl (by decide) rfl (fun ls hl => ?_)
        refine lv_iload hx hb dX1_line_58 (lv_at hl 0 rfl) ?_
        refine lv_if_ge (tgt := 67) hx hb dX1_line_60 (by decide) (fun h60 => absurd h60 (show ¬ (0 : Int32) ≤ (-1) by decide)) (fun h60 => ?_)
        refine lv_iconst (v := (-1)) hx hb dX1_line_63 (by decide) ?_
        refine lv_goto (tgt := 80) hx hb dX1_line_64 (by decide) ?_
        refine lv_istore (lv' := [(4, .int (-1)), (6, .int (-1)), (5, .int (nI t)), (0, .ref (a 0)), (1, .int (nI j)), (2, .int (nI d)), (3, .int (nI i))]) hx hb dX1_line_80 hl (by decide) rfl (fun ls hl => ?_)
        refine lv_iinc (v := nI (t + 1)) (lv' := [(5, .int (nI (t + 1))), (4, .int (-1)), (6, .int (-1)), (0, .ref (a 0)), (1, .int (nI j)), (2, .int (nI d)), (3, .int (nI i))]) hx hb dX1_line_82 hl (k := 2) rfl (nI_1 t) (by decide) rfl (fun ls hl => ?_)
        refine lv_goto (tgt := 25) hx hb dX1_line_85 (by decide) ?_
        exact done (by rw [← he, lin, if_pos hbm]) (t + 1) _ (by omega) ls (lv_sub hl [0, 1, 2, 3, 4, 5, 6] rfl)
      · have htd : t < d := by rcases Nat.lt_or_ge t d with z | z; exact z; exact absurd (nI_le z (by omega)) h39
        refine lv_aload_n hx hb dX1_line_42 rfl (lv_at hl 2 rfl) ?_
        refine lv_iload hx hb dX1_line_43 (lv_at hl 1 rfl) ?_
        refine lv_iload_n hx hb dX1_line_45 rfl (lv_at hl 4 rfl) ?_
        refine lv_iload hx hb dX1_line_46 (lv_at hl 0 rfl) ?_
        refine lv_isub hx hb dX1_line_48 ?_
        refine ga_is (y := nI (d - t)) (pk_sub (by omega)) ?_
        refine W.callR (r := bm cf tf (rw_ vs1) x (d - t)) (W.runV (As := [.int (nI x), .int (nI (d - t))]) (rest := []) ⟨hx, hb, hml, hown, hts⟩ (kX1_bestOf l dC dI cI cZ cA a 0 n wv lo cf tf vs1 nr x (d - t) (by omega) (by omega) hcx (fun i hi => by have := htt x hxn i hi; omega)) (cwV 2 hts gX1_line_X1_bestOf rfl rfl rfl (by decide +kernel) ⟨Nat.le_of_ble_eq_true rfl, Nat.le_of_ble_eq_true rfl⟩) ⟨blindR, va_recv hK hP (ci := 1) (q0 := 0) rfl rfl, preR hP hK⟩ rfl rfl hl.1 rfl (lv_room (Nat.le_of_ble_eq_true rfl)) dX1_line_49 ⟨Nat.zero_le _, Nat.zero_le _⟩) ?_
        refine W.eq (g2 := F0 m 52 ls [.int (bm cf tf (rw_ vs1) x (d - t))]) rfl ?_
        refine ga_is (y := bm cf tf (vv wv lo cf tf) x (d - t)) (bm_congr hxn htt (d - t) (fun e he y hy => hV e (by omega) y hy)) ?_
        rcases bm_or (cf := cf) (tf := tf) (T := vv wv lo cf tf) (x := x) (d - t) with hbm | ⟨b, hb6, hbe⟩
        · refine ga_is (y := (-1)) (hbm) ?_
          refine lv_goto (tgt := 56) hx hb dX1_line_52 (by decide) ?_
          refine lv_istore (lv' := [(6, .int (-1)), (5, .int (nI t)), (4, .int (nI x)), (0, .ref (a 0)), (1, .int (nI j)), (2, .int (nI d)), (3, .int (nI i))]) hx hb dX1_line_56 hl (by decide) rfl (fun ls hl => ?_)
          refine lv_iload hx hb dX1_line_58 (lv_at hl 0 rfl) ?_
          refine lv_if_ge (tgt := 67) hx hb dX1_line_60 (by decide) (fun h60 => absurd h60 (show ¬ (0 : Int32) ≤ (-1) by decide)) (fun h60 => ?_)
          refine lv_iconst (v := (-1)) hx hb dX1_line_63 (by decide) ?_
          refine lv_goto (tgt := 80) hx hb dX1_line_64 (by decide) ?_
          refine lv_istore (lv' := [(4, .int (-1)), (6, .int (-1)), (5, .int (nI t)), (0, .ref (a 0)), (1, .int (nI j)), (2, .int (nI d)), (3, .int (nI i))]) hx hb dX1_line_80 hl (by decide) rfl (fun ls hl => ?_)
          refine lv_iinc (v := nI (t + 1)) (lv' := [(5, .int (nI (t + 1))), (4, .int (-1)), (6, .int (-1)), (0, .ref (a 0)), (1, .int (nI j)), (2, .int (nI d)), (3, .int (nI i))]) hx hb dX1_line_82 hl (k := 2) rfl (nI_1 t) (by decide) rfl (fun ls hl => ?_)
          refine lv_goto (tgt := 25) hx hb dX1_line_85 (by decide) ?_
          exact done (by rw [← he, lin, if_pos hbm]) (t + 1) _ (by omega) ls (lv_sub hl [0, 1, 2, 3, 4, 5, 6] rfl)
        · have htb := htt x hxn b hb6
          rw [lin, hbe, if_neg (m1_nI (by omega)), nI_clamp (by omega)] at he
          refine ga_is (y := nI b) (hbe) ?_
          refine lv_goto (tgt := 56) hx hb dX1_line_52 (by decide) ?_
          refine lv_istore (lv' := [(6, .int (nI b)), (5, .int (nI t)), (4, .int (nI x)), (0, .ref (a 0)), (1, .int (nI j)), (2, .int (nI d)), (3, .int (nI i))]) hx hb dX1_line_56 hl (by decide) rfl (fun ls hl => ?_)
          refine lv_iload hx hb dX1_line_58 (lv_at hl 0 rfl) ?_
          refine lv_if_ge (tgt := 67) hx hb dX1_line_60 (by decide) (fun h60 => ?_) (fun h60 => absurd (nI_pos' (by omega)) h60)
          refine lv_aload_n hx hb dX1_line_67 rfl (lv_at hl 3 rfl) ?_
          refine va_get (D := (dC, dI)) (ci := 1) (v := .ref (a 4)) (C := RX1) (T := TX1) (N := 8) hx hb hts hiw hown hK hP 0 rfl rfl 5 (by decide) hf_20 (fun _ h9 => h9) rfl dX1_line_68 ?_
          refine lv_bipush (v := 6) hx hb dX1_line_71 (by decide) ?_
          refine lv_iload hx hb dX1_line_73 (lv_at hl 2 rfl) ?_
          refine lv_imul hx hb dX1_line_75 ?_
          refine lv_iload hx hb dX1_line_76 (lv_at hl 0 rfl) ?_
          refine lv_iadd hx hb dX1_line_78 ?_
          refine ga_is (y := nI (x * 6 + b)) (by rw [show (6 : Int32) = nI 6 from rfl, pk_mul, nI_add, Nat.mul_comm 6 x]) ?_
          refine ga_iald hx hb hK hP 4 0 rfl rfl (x * 6 + b) (v := nI (tf (x * 6 + b))) rfl (by omega) (by decide) dX1_line_79 ?_
          refine lv_istore (lv' := [(4, .int (nI (tf (x * 6 + b)))), (6, .int (nI b)), (5, .int (nI t)), (0, .ref (a 0)), (1, .int (nI j)), (2, .int (nI d)), (3, .int (nI i))]) hx hb dX1_line_80 hl (by decide) rfl (fun ls hl => ?_)
          refine lv_iinc (v := nI (t + 1)) (lv' := [(5, .int (nI (t + 1))), (4, .int (nI (tf (x * 6 + b)))), (6, .int (nI b)), (0, .ref (a 0)), (1, .int (nI j)), (2, .int (nI d)), (3, .int (nI i))]) hx hb dX1_line_82 hl (k := 2) rfl (nI_1 t) (by decide) rfl (fun ls hl => ?_)
          refine lv_goto (tgt := 25) hx hb dX1_line_85 (by decide) ?_
          exact ih (t + 1) _ (by omega) htb (by rw [← he]; congr 1) ls (lv_sub hl [0, 1, 3, 4, 5, 6] rfl)
  exact loop i 0 j (by omega) hj rfl ls (lv_sub hl [0, 1, 2, 3, 4, 5] rfl)
set_option maxHeartbeats 4000000 in
set_option maxRecDepth 100000 in
/-- line, refused -/
theorem kX1_line_no (l : Launch) (dC : Nat → ClassId) (dI : Nat → Nat → Nat) (cI cZ cA : ClassId) (a : Nat → Nat) (sz : Nat) (th : Nat) (n : Nat) (wv : Nat → Int32) (lo : Nat → Int32) (cf : Nat → Nat) (tf : Nat → Nat) (vs : Nat → Int32) (nr : Nat → Nat) (x d : Int32) (i : Int32) (hB : Bad n x d) : Met l yX1_line wsX1_line ({ frames := 5, cells := 0, slots := 0, locals := 113 }) (va_Pc [.ref (a 0), .int x, .int d, .int i] (WP dC dI (GT cI cZ cA) (MW cI cZ a th n wv lo cf tf vs nr) sz)) (va_Qi (fun r (_ : Unit) => r = 0) (fun (_ : Unit) => WQ dC dI (GT cI cZ cA) (va_A (MW cI cZ a th n wv lo cf tf vs nr) sz) (MW cI cZ a 1 n wv lo cf tf vs nr)) (va_A (MW cI cZ a th n wv lo cf tf vs nr) sz)) 0 0 (va_A (MW cI cZ a th n wv lo cf tf vs nr) sz) := by
  refine Met.ofW (cc := cX1_line) (maxL := 7) (ret := (some .int)) (by decide) rfl ?_
  intro p e s m args below meth c s₁ B hml hv
  obtain ⟨rfl, hsz, hP, hK, hD0⟩ := hv
  have hx := B.exec
  have hb := B.bytes
  have hr := B.returns
  have hts := atoms_spec (ws := wsX1_line) B.pre
  have hown : s.vm.findClass RX1 = some m.cls := findClass_of_methodNamed B.named
  have hlocks := B.notSynchronized
  have hf_20 := hts (.fieldLink RX1 20 "GraphSearchModel" "to" "[I") (by decide +kernel)
  have hiw : ∀ w ∈ wsX10, w ∈ wsX1_line := by decide +kernel
  subst hsz
  have hD := hD0.self (sz := s.heap.size)
  generalize hAe : va_A (MW cI cZ a th n wv lo cf tf vs nr) s.heap.size = A at hD ⊢
  have hA : ∀ q : Nat, s.heap.size ≤ q → A q := fun q h => by rw [← hAe]; exact Or.inr h
  have hS : va_S A s.heap s.heap [] := va_S.rf
  have hP : va_P (dC, dI) vwCl (MW cI cZ a th n wv lo cf tf vs nr) s.heap := hP
  have hl := lv_entry ([.ref (a 0), .int x, .int d, .int i]) (n := 7) (Nat.le_of_ble_eq_true rfl)
  rw [lg_entry_eq]
  generalize (lg_sl ([.ref (a 0), .int x, .int d, .int i]) ++ List.replicate (7 - (lg_sl ([.ref (a 0), .int x, .int d, .int i])).length) Slot.unset).toArray = ls at hl ⊢
  have hl : lv_has ls 7 [(0, .ref (a 0)), (1, .int x), (2, .int d), (3, .int i)] := hl
  refine lv_aload_n hx hb dX1_line_0 rfl (lv_at hl 0 rfl) ?_
  refine lv_iload_n hx hb dX1_line_1 rfl (lv_at hl 1 rfl) ?_
  refine lv_iload_n hx hb dX1_line_2 rfl (lv_at hl 2 rfl) ?_
  have hF := freeAll hD hS hA
  refine va_calli (va_runV (As := [.int x, .int d]) (rest := []) ⟨hx, hb, hml, hown, hts⟩ (kX1_asked_no l dC dI cI cZ cA a s.heap.size th n wv lo cf tf vs nr x d hB) (cwV 2 hts gX1_line_X1_asked rfl rfl rfl (by decide +kernel) ⟨Nat.le_of_ble_eq_true rfl, Nat.le_of_ble_eq_true rfl⟩) ⟨blindW, va_recv hK hP (ci := 1) (q0 := 0) rfl rfl, preW hP hK hD⟩ rfl rfl hl.1 rfl (lv_room (Nat.le_of_ble_eq_true rfl)) dX1_line_3 ⟨Nat.zero_le _, Nat.zero_le _⟩) hS (fun q _ h => hF q h) hF (fun r_ _u tS H1 locs htS hvm hw hB hz1 hk1 hS => ?_)
  obtain rfl : r_ = 0 := hw
  obtain ⟨hP1, hK1, hD1⟩ := hB
  rw [htS] at hP1
  have hP : va_P (dC, dI) vwCl (MW cI cZ a 1 n wv lo cf tf vs nr) H1 := hP1
  have hD : va_D A (MW cI cZ a 1 n wv lo cf tf vs nr) := hD1.weaken (fun _ _ _ h => hF _ h)
  generalize H1 = H at hP hS ⊢
  refine W.eq (g2 := F0 m 6 ls [.int 0]) rfl ?_
  refine lv_if_ne (tgt := 11) hx hb dX1_line_6 (by decide) (fun h6 => absurd rfl h6) (fun h6 => ?_)
  refine lv_iconst (v := 0) hx hb dX1_line_9 (by decide) ?_
  exact W.iret (v := 0) hx hb hr (fun t ht hW => ⟨⟨0, (), rfl, rfl, by rw [ht]; exact hP, va_K.moved hW.alike hK, hD⟩, hS.F ht⟩) hS.2.2 dX1_line_10
