abbrev GJ (cI cZ cA cJ : ClassId) : List (ClassId × FieldType) := [(cI, .int), (cZ, .boolean), (cA, .array .int), (cJ, .long)]
abbrev OW (o : Nat) (cJ : ClassId) (fo : Nat → Int64) : va_W := [(o, .inl (cJ, 1, .inr (.inl fo)))]
section OWS
variable {cI cZ cA cJ : ClassId} {a : Nat → Nat} {n am rf mk o : Nat} {wv lo : Nat → Int32} {cf tf : Nat → Nat} {T : Nat → Nat → Int32} {mt : Nat → Nat} {im : Nat → Int32} {fo g : Nat → Int64}
theorem OW_at : (XW cI cZ cA a n am rf mk wv lo cf tf T mt im ++ OW o cJ fo)[16]? = some (o, .inl (cJ, 1, .inr (.inl fo))) := rfl
theorem OW_set : (XW cI cZ cA a n am rf mk wv lo cf tf T mt im ++ OW o cJ fo).set 16 (o, .inl (cJ, 1, .inr (.inl g))) = XW cI cZ cA a n am rf mk wv lo cf tf T mt im ++ OW o cJ g := rfl
end OWS
theorem in_0 : vp_in (0 : Int32) 1 := vp_in_nI (n := 0) (N := 1) (by decide) (by decide)
set_option maxHeartbeats 4000000 in
set_option maxRecDepth 100000 in
theorem kL_value (l : Launch) (dC : Nat → ClassId) (dI : Nat → Nat → Nat) (cI cZ cA cJ : ClassId) (a : Nat → Nat) (o : Nat) (fo : Nat → Int64) (sz : Nat) (n : Nat) (am : Nat) (rf : Nat) (mk : Nat) (wv : Nat → Int32) (lo : Nat → Int32) (cf : Nat → Nat) (tf : Nat → Nat) (T : Nat → Nat → Int32) (mt : Nat → Nat) (im : Nat → Int32) (j d : Nat) (hd : d < 8) (hG : Gok n wv lo cf tf) (hT : Tok n wv lo cf tf rf T) (hj : j < n) : Met l yL_value wsL_value ({ frames := 8, cells := 0, slots := 0, locals := 134 }) (va_Pc [.ref (a 0), .int (nI j), .int (nI d), .ref o] (WP dC dI (GJ cI cZ cA cJ) (XW cI cZ cA a n am rf mk wv lo cf tf T mt im ++ OW o cJ fo) sz)) (va_Qi (fun r (u : Nat × (Nat → Nat → Int32)) => r = 0 ∧ Tok n wv lo cf tf u.1 u.2) (fun u => WQ dC dI (GJ cI cZ cA cJ) (va_A (XW cI cZ cA a n am rf mk wv lo cf tf T mt im ++ OW o cJ fo) sz) (XW cI cZ cA a n am (u.1) mk wv lo cf tf (u.2) mt im ++ OW o cJ (vp_updL fo 0 (vv wv lo cf tf d j).toInt64))) (va_A (XW cI cZ cA a n am rf mk wv lo cf tf T mt im ++ OW o cJ fo) sz)) 0 0 (va_A (XW cI cZ cA a n am rf mk wv lo cf tf T mt im ++ OW o cJ fo) sz) := by
  refine va_MetW (cc := cL_value) (maxL := 5) (ret := (some .int)) (hh := [(0, 10, 13, 13)]) (by decide) rfl ?_
  intro p e s m args below meth c s₁ B hml hv
  obtain ⟨rfl, hsz, hP, hK, hD0⟩ := hv
  have hx := B.exec
  have hb := B.bytes
  have hr := B.returns
  have hts := atoms_spec (ws := wsL_value) B.pre
  have hown : s.vm.findClass RL = some m.cls := findClass_of_methodNamed B.named
  have hlocks := B.notSynchronized
  subst hsz
  have hD := hD0.self (sz := s.heap.size)
  generalize hAe : va_A (XW cI cZ cA a n am rf mk wv lo cf tf T mt im ++ OW o cJ fo) s.heap.size = A at hD ⊢
  have hA : ∀ q : Nat, s.heap.size ≤ q → A q := fun q h => by rw [← hAe]; exact Or.inr h
  have hS : va_S A s.heap s.heap [] := va_S.rf
  have hP : va_P (dC, dI) vwCl (XW cI cZ cA a n am rf mk wv lo cf tf T mt im ++ OW o cJ fo) s.heap := hP
  have hKg := hK.sub (tys' := GT cI cZ cA) [0, 1, 2] rfl
  have hl := lv_entry ([.ref (a 0), .int (nI j), .int (nI d), .ref o]) (n := 5) (Nat.le_of_ble_eq_true rfl)
  rw [lg_entry_eq]
  generalize (lg_sl ([.ref (a 0), .int (nI j), .int (nI d), .ref o]) ++ List.replicate (5 - (lg_sl ([.ref (a 0), .int (nI j), .int (nI d), .ref o])).length) Slot.unset).toArray = ls at hl ⊢
  have hl : lv_has ls 5 [(0, .ref (a 0)), (1, .int (nI j)), (2, .int (nI d)), (3, .ref o)] := hl
  refine lv_aload_n hx hb dL_value_0 rfl (lv_at hl 3 rfl) ?_
  refine lv_iconst (v := 0) hx hb dL_value_1 (by decide) ?_
  refine lv_aload_n hx hb dL_value_2 rfl (lv_at hl 0 rfl) ?_
  refine lv_iload_n hx hb dL_value_3 rfl (lv_at hl 1 rfl) ?_
  refine lv_iload_n hx hb dL_value_4 rfl (lv_at hl 2 rfl) ?_
  have hF := freeL hD hS hA
  refine va_calli (va_runV (As := [.int (nI j), .int (nI d)]) (rest := [.int 0, .ref o]) ⟨hx, hb, hml, hown, hts⟩ (kX0_value l dC dI cI cZ cA a s.heap.size n am rf mk wv lo cf tf T mt im j d hd hG hT hj) (cwV 2 hts gL_value_X0_value rfl rfl rfl (by decide +kernel) ⟨Nat.le_of_ble_eq_true rfl, Nat.le_of_ble_eq_true rfl⟩) ⟨blindW, va_recv hKg (pL hP) (ci := 0) (q0 := 0) rfl rfl, preW (pL hP) hKg (dL hD)⟩ rfl rfl hl.1 rfl (lv_room (Nat.le_of_ble_eq_true rfl)) dL_value_5 ⟨Nat.zero_le _, Nat.zero_le _⟩) hS (fun q _ h => hF q h) hF (fun r_ u tS H1 locs htS hvm hw hB hz1 hk1 hS => ?_)
  obtain ⟨hP1, hK1, hD1⟩ := hB
  rw [htS] at hP1
  obtain ⟨hP, hD⟩ := joinL hP hD hk1 hF hP1 hD1
  generalize H1 = H at hP hS ⊢
  obtain ⟨rfl, hsp⟩ := hw
  have hP : va_P (dC, dI) vwCl (XW cI cZ cA a n am (u.1) mk wv lo cf tf (u.2) mt im ++ OW o cJ fo) H := hP
  have hD : va_D A (XW cI cZ cA a n am (u.1) mk wv lo cf tf (u.2) mt im ++ OW o cJ fo) := hD
  refine W.eq (g2 := F0 m 8 ls [.int (vv wv lo cf tf d j), .int 0, .ref o]) rfl ?_
  refine lv_i2l hx hb dL_value_8 rfl ?_
  refine va_last hx hb hK hP hD hS 16 3 OW_at rfl in_0 dL_value_9 (fun H locs hP hD hS => ?_)
  rw [sb_cl0, OW_set] at hP hD
  refine lv_goto (tgt := 17) hx hb dL_value_10 (by decide) ?_
  refine lv_iconst (v := 0) hx hb dL_value_17 (by decide) ?_
  exact W.iret (v := 0) hx hb hr (fun t ht hW => ⟨⟨0, u, rfl, ⟨rfl, hsp⟩, by rw [ht]; exact hP, va_K.moved hW.alike hK, hD⟩, hS.F ht⟩) hS.2.2 dL_value_18
set_option maxHeartbeats 4000000 in
set_option maxRecDepth 100000 in
theorem kL_best (l : Launch) (dC : Nat → ClassId) (dI : Nat → Nat → Nat) (cI cZ cA cJ : ClassId) (a : Nat → Nat) (o : Nat) (fo : Nat → Int64) (sz : Nat) (n : Nat) (am : Nat) (rf : Nat) (mk : Nat) (wv : Nat → Int32) (lo : Nat → Int32) (cf : Nat → Nat) (tf : Nat → Nat) (T : Nat → Nat → Int32) (mt : Nat → Nat) (im : Nat → Int32) (j d : Nat) (hd : d < 8) (hG : Gok n wv lo cf tf) (hT : Tok n wv lo cf tf rf T) (hj : j < n) : Met l yL_best wsL_best ({ frames := 8, cells := 0, slots := 0, locals := 134 }) (va_Pc [.ref (a 0), .int (nI j), .int (nI d), .ref o] (WP dC dI (GJ cI cZ cA cJ) (XW cI cZ cA a n am rf mk wv lo cf tf T mt im ++ OW o cJ fo) sz)) (va_Qi (fun r (u : Nat × (Nat → Nat → Int32)) => r = 0 ∧ Tok n wv lo cf tf u.1 u.2) (fun u => WQ dC dI (GJ cI cZ cA cJ) (va_A (XW cI cZ cA a n am rf mk wv lo cf tf T mt im ++ OW o cJ fo) sz) (XW cI cZ cA a n am (u.1) mk wv lo cf tf (u.2) mt im ++ OW o cJ (vp_updL fo 0 (bm cf tf (vv wv lo cf tf) j d).toInt64))) (va_A (XW cI cZ cA a n am rf mk wv lo cf tf T mt im ++ OW o cJ fo) sz)) 0 0 (va_A (XW cI cZ cA a n am rf mk wv lo cf tf T mt im ++ OW o cJ fo) sz) := by
  refine va_MetW (cc := cL_best) (maxL := 5) (ret := (some .int)) (hh := [(0, 10, 13, 13)]) (by decide) rfl ?_
  intro p e s m args below meth c s₁ B hml hv
  obtain ⟨rfl, hsz, hP, hK, hD0⟩ := hv
  have hx := B.exec
  have hb := B.bytes
  have hr := B.returns
  have hts := atoms_spec (ws := wsL_best) B.pre
  have hown : s.vm.findClass RL = some m.cls := findClass_of_methodNamed B.named
  have hlocks := B.notSynchronized
  subst hsz
  have hD := hD0.self (sz := s.heap.size)
  generalize hAe : va_A (XW cI cZ cA a n am rf mk wv lo cf tf T mt im ++ OW o cJ fo) s.heap.size = A at hD ⊢
  have hA : ∀ q : Nat, s.heap.size ≤ q → A q := fun q h => by rw [← hAe]; exact Or.inr h
  have hS : va_S A s.heap s.heap [] := va_S.rf
  have hP : va_P (dC, dI) vwCl (XW cI cZ cA a n am rf mk wv lo cf tf T mt im ++ OW o cJ fo) s.heap := hP
  have hKg := hK.sub (tys' := GT cI cZ cA) [0, 1, 2] rfl
  have hl := lv_entry ([.ref (a 0), .int (nI j), .int (nI d), .ref o]) (n := 5) (Nat.le_of_ble_eq_true rfl)
  rw [lg_entry_eq]
  generalize (lg_sl ([.ref (a 0), .int (nI j), .int (nI d), .ref o]) ++ List.replicate (5 - (lg_sl ([.ref (a 0), .int (nI j), .int (nI d), .ref o])).length) Slot.unset).toArray = ls at hl ⊢
  have hl : lv_has ls 5 [(0, .ref (a 0)), (1, .int (nI j)), (2, .int (nI d)), (3, .ref o)] := hl
  refine lv_aload_n hx hb dL_best_0 rfl (lv_at hl 3 rfl) ?_
  refine lv_iconst (v := 0) hx hb dL_best_1 (by decide) ?_
  refine lv_aload_n hx hb dL_best_2 rfl (lv_at hl 0 rfl) ?_
  refine lv_iload_n hx hb dL_best_3 rfl (lv_at hl 1 rfl) ?_
  refine lv_iload_n hx hb dL_best_4 rfl (lv_at hl 2 rfl) ?_
  have hF := freeL hD hS hA
  refine va_calli (va_runV (As := [.int (nI j), .int (nI d)]) (rest := [.int 0, .ref o]) ⟨hx, hb, hml, hown, hts⟩ (kX0_best l dC dI cI cZ cA a s.heap.size n am rf mk wv lo cf tf T mt im j d hd hG hT hj) (cwV 2 hts gL_best_X0_best rfl rfl rfl (by decide +kernel) ⟨Nat.le_of_ble_eq_true rfl, Nat.le_of_ble_eq_true rfl⟩) ⟨blindW, va_recv hKg (pL hP) (ci := 0) (q0 := 0) rfl rfl, preW (pL hP) hKg (dL hD)⟩ rfl rfl hl.1 rfl (lv_room (Nat.le_of_ble_eq_true rfl)) dL_best_5 ⟨Nat.zero_le _, Nat.zero_le _⟩) hS (fun q _ h => hF q h) hF (fun r_ u tS H1 locs htS hvm hw hB hz1 hk1 hS => ?_)
  obtain ⟨hP1, hK1, hD1⟩ := hB
  rw [htS] at hP1
  obtain ⟨hP, hD⟩ := joinL hP hD hk1 hF hP1 hD1
  generalize H1 = H at hP hS ⊢
  obtain ⟨rfl, hsp⟩ := hw
  have hP : va_P (dC, dI) vwCl (XW cI cZ cA a n am (u.1) mk wv lo cf tf (u.2) mt im ++ OW o cJ fo) H := hP
  have hD : va_D A (XW cI cZ cA a n am (u.1) mk wv lo cf tf (u.2) mt im ++ OW o cJ fo) := hD
  refine W.eq (g2 := F0 m 8 ls [.int (bm cf tf (vv wv lo cf tf) j d), .int 0, .ref o]) rfl ?_
  refine lv_i2l hx hb dL_best_8 rfl ?_
  refine va_last hx hb hK hP hD hS 16 3 OW_at rfl in_0 dL_best_9 (fun H locs hP hD hS => ?_)
  rw [sb_cl0, OW_set] at hP hD
  refine lv_goto (tgt := 17) hx hb dL_best_10 (by decide) ?_
  refine lv_iconst (v := 0) hx hb dL_best_17 (by decide) ?_
  exact W.iret (v := 0) hx hb hr (fun t ht hW => ⟨⟨0, u, rfl, ⟨rfl, hsp⟩, by rw [ht]; exact hP, va_K.moved hW.alike hK, hD⟩, hS.F ht⟩) hS.2.2 dL_best_18
set_option maxHeartbeats 4000000 in
set_option maxRecDepth 100000 in
theorem kL_ties (l : Launch) (dC : Nat → ClassId) (dI : Nat → Nat → Nat) (cI cZ cA cJ : ClassId) (a : Nat → Nat) (o : Nat) (fo : Nat → Int64) (sz : Nat) (n : Nat) (am : Nat) (rf : Nat) (mk : Nat) (wv : Nat → Int32) (lo : Nat → Int32) (cf : Nat → Nat) (tf : Nat → Nat) (T : Nat → Nat → Int32) (mt : Nat → Nat) (im : Nat → Int32) (j d : Nat) (hd : d < 8) (hG : Gok n wv lo cf tf) (hT : Tok n wv lo cf tf rf T) (hj : j < n) : Met l yL_ties wsL_ties ({ frames := 8, cells := 0, slots := 0, locals := 136 }) (va_Pc [.ref (a 0), .int (nI j), .int (nI d), .ref o] (WP dC dI (GJ cI cZ cA cJ) (XW cI cZ cA a n am rf mk wv lo cf tf T mt im ++ OW o cJ fo) sz)) (va_Qi (fun r (u : Nat × (Nat → Nat → Int32)) => r = 0 ∧ Tok n wv lo cf tf u.1 u.2) (fun u => WQ dC dI (GJ cI cZ cA cJ) (va_A (XW cI cZ cA a n am rf mk wv lo cf tf T mt im ++ OW o cJ fo) sz) (XW cI cZ cA a n am (u.1) mk wv lo cf tf (u.2) mt im ++ OW o cJ (vp_updL fo 0 (nI (tie cf tf (vv wv lo cf tf) j d)).toInt64))) (va_A (XW cI cZ cA a n am rf mk wv lo cf tf T mt im ++ OW o cJ fo) sz)) 0 0 (va_A (XW cI cZ cA a n am rf mk wv lo cf tf T mt im ++ OW o cJ fo) sz) := by
  refine va_MetW (cc := cL_ties) (maxL := 5) (ret := (some .int)) (hh := [(0, 10, 13, 13)]) (by decide) rfl ?_
  intro p e s m args below meth c s₁ B hml hv
  obtain ⟨rfl, hsz, hP, hK, hD0⟩ := hv
  have hx := B.exec
  have hb := B.bytes
  have hr := B.returns
  have hts := atoms_spec (ws := wsL_ties) B.pre
  have hown : s.vm.findClass RL = some m.cls := findClass_of_methodNamed B.named
  have hlocks := B.notSynchronized
  subst hsz
  have hD := hD0.self (sz := s.heap.size)
  generalize hAe : va_A (XW cI cZ cA a n am rf mk wv lo cf tf T mt im ++ OW o cJ fo) s.heap.size = A at hD ⊢
  have hA : ∀ q : Nat, s.heap.size ≤ q → A q := fun q h => by rw [← hAe]; exact Or.inr h
  have hS : va_S A s.heap s.heap [] := va_S.rf
  have hP : va_P (dC, dI) vwCl (XW cI cZ cA a n am rf mk wv lo cf tf T mt im ++ OW o cJ fo) s.heap := hP
  have hKg := hK.sub (tys' := GT cI cZ cA) [0, 1, 2] rfl
  have hl := lv_entry ([.ref (a 0), .int (nI j), .int (nI d), .ref o]) (n := 5) (Nat.le_of_ble_eq_true rfl)
  rw [lg_entry_eq]
  generalize (lg_sl ([.ref (a 0), .int (nI j), .int (nI d), .ref o]) ++ List.replicate (5 - (lg_sl ([.ref (a 0), .int (nI j), .int (nI d), .ref o])).length) Slot.unset).toArray = ls at hl ⊢
  have hl : lv_has ls 5 [(0, .ref (a 0)), (1, .int (nI j)), (2, .int (nI d)), (3, .ref o)] := hl
  refine lv_aload_n hx hb dL_ties_0 rfl (lv_at hl 3 rfl) ?_
  refine lv_iconst (v := 0) hx hb dL_ties_1 (by decide) ?_
  refine lv_aload_n hx hb dL_ties_2 rfl (lv_at hl 0 rfl) ?_
  refine lv_iload_n hx hb dL_ties_3 rfl (lv_at hl 1 rfl) ?_
  refine lv_iload_n hx hb dL_ties_4 rfl (lv_at hl 2 rfl) ?_
  have hF := freeL hD hS hA
  refine va_calli (va_runV (As := [.int (nI j), .int (nI d)]) (rest := [.int 0, .ref o]) ⟨hx, hb, hml, hown, hts⟩ (kX0_ties l dC dI cI cZ cA a s.heap.size n am rf mk wv lo cf tf T mt im j d hd hG hT hj) (cwV 2 hts gL_ties_X0_ties rfl rfl rfl (by decide +kernel) ⟨Nat.le_of_ble_eq_true rfl, Nat.le_of_ble_eq_true rfl⟩) ⟨blindW, va_recv hKg (pL hP) (ci := 0) (q0 := 0) rfl rfl, preW (pL hP) hKg (dL hD)⟩ rfl rfl hl.1 rfl (lv_room (Nat.le_of_ble_eq_true rfl)) dL_ties_5 ⟨Nat.zero_le _, Nat.zero_le _⟩) hS (fun q _ h => hF q h) hF (fun r_ u tS H1 locs htS hvm hw hB hz1 hk1 hS => ?_)
  obtain ⟨hP1, hK1, hD1⟩ := hB
  rw [htS] at hP1
  obtain ⟨hP, hD⟩ := joinL hP hD hk1 hF hP1 hD1
  generalize H1 = H at hP hS ⊢
  obtain ⟨rfl, hsp⟩ := hw
  have hP : va_P (dC, dI) vwCl (XW cI cZ cA a n am (u.1) mk wv lo cf tf (u.2) mt im ++ OW o cJ fo) H := hP
  have hD : va_D A (XW cI cZ cA a n am (u.1) mk wv lo cf tf (u.2) mt im ++ OW o cJ fo) := hD
  refine W.eq (g2 := F0 m 8 ls [.int (nI (tie cf tf (vv wv lo cf tf) j d)), .int 0, .ref o]) rfl ?_
  refine lv_i2l hx hb dL_ties_8 rfl ?_
  refine va_last hx hb hK hP hD hS 16 3 OW_at rfl in_0 dL_ties_9 (fun H locs hP hD hS => ?_)
  rw [sb_cl0, OW_set] at hP hD
  refine lv_goto (tgt := 17) hx hb dL_ties_10 (by decide) ?_
  refine lv_iconst (v := 0) hx hb dL_ties_17 (by decide) ?_
  exact W.iret (v := 0) hx hb hr (fun t ht hW => ⟨⟨0, u, rfl, ⟨rfl, hsp⟩, by rw [ht]; exact hP, va_K.moved hW.alike hK, hD⟩, hS.F ht⟩) hS.2.2 dL_ties_18
set_option maxHeartbeats 4000000 in
set_option maxRecDepth 100000 in
theorem kL_settled (l : Launch) (dC : Nat → ClassId) (dI : Nat → Nat → Nat) (cI cZ cA cJ : ClassId) (a : Nat → Nat) (o : Nat) (fo : Nat → Int64) (sz : Nat) (n : Nat) (am : Nat) (rf : Nat) (mk : Nat) (wv : Nat → Int32) (lo : Nat → Int32) (cf : Nat → Nat) (tf : Nat → Nat) (T : Nat → Nat → Int32) (mt : Nat → Nat) (im : Nat → Int32) (j d : Nat) (hd : d < 8) (hG : Gok n wv lo cf tf) (hT : Tok n wv lo cf tf rf T) (hj : j < n) : Met l yL_settled wsL_settled ({ frames := 8, cells := 0, slots := 0, locals := 135 }) (va_Pc [.ref (a 0), .int (nI j), .int (nI d), .ref o] (WP dC dI (GJ cI cZ cA cJ) (XW cI cZ cA a n am rf mk wv lo cf tf T mt im ++ OW o cJ fo) sz)) (va_Qi (fun r (u : Nat × (Nat → Nat → Int32)) => r = 0 ∧ Tok n wv lo cf tf u.1 u.2) (fun u => WQ dC dI (GJ cI cZ cA cJ) (va_A (XW cI cZ cA a n am rf mk wv lo cf tf T mt im ++ OW o cJ fo) sz) (XW cI cZ cA a n am (u.1) mk wv lo cf tf (u.2) mt im ++ OW o cJ (vp_updL fo 0 (nI (set_ (fun e => vv wv lo cf tf e j) (vv wv lo cf tf d j) d)).toInt64))) (va_A (XW cI cZ cA a n am rf mk wv lo cf tf T mt im ++ OW o cJ fo) sz)) 0 0 (va_A (XW cI cZ cA a n am rf mk wv lo cf tf T mt im ++ OW o cJ fo) sz) := by
  refine va_MetW (cc := cL_settled) (maxL := 5) (ret := (some .int)) (hh := [(0, 10, 13, 13)]) (by decide) rfl ?_
  intro p e s m args below meth c s₁ B hml hv
  obtain ⟨rfl, hsz, hP, hK, hD0⟩ := hv
  have hx := B.exec
  have hb := B.bytes
  have hr := B.returns
  have hts := atoms_spec (ws := wsL_settled) B.pre
  have hown : s.vm.findClass RL = some m.cls := findClass_of_methodNamed B.named
  have hlocks := B.notSynchronized
  subst hsz
  have hD := hD0.self (sz := s.heap.size)
  generalize hAe : va_A (XW cI cZ cA a n am rf mk wv lo cf tf T mt im ++ OW o cJ fo) s.heap.size = A at hD ⊢
  have hA : ∀ q : Nat, s.heap.size ≤ q → A q := fun q h => by rw [← hAe]; exact Or.inr h
  have hS : va_S A s.heap s.heap [] := va_S.rf
  have hP : va_P (dC, dI) vwCl (XW cI cZ cA a n am rf mk wv lo cf tf T mt im ++ OW o cJ fo) s.heap := hP
  have hKg := hK.sub (tys' := GT cI cZ cA) [0, 1, 2] rfl
  have hl := lv_entry ([.ref (a 0), .int (nI j), .int (nI d), .ref o]) (n := 5) (Nat.le_of_ble_eq_true rfl)
  rw [lg_entry_eq]
  generalize (lg_sl ([.ref (a 0), .int (nI j), .int (nI d), .ref o]) ++ List.replicate (5 - (lg_sl ([.ref (a 0), .int (nI j), .int (nI d), .ref o])).length) Slot.unset).toArray = ls at hl ⊢
  have hl : lv_has ls 5 [(0, .ref (a 0)), (1, .int (nI j)), (2, .int (nI d)), (3, .ref o)] := hl
  refine lv_aload_n hx hb dL_settled_0 rfl (lv_at hl 3 rfl) ?_
  refine lv_iconst (v := 0) hx hb dL_settled_1 (by decide) ?_
  refine lv_aload_n hx hb dL_settled_2 rfl (lv_at hl 0 rfl) ?_
  refine lv_iload_n hx hb dL_settled_3 rfl (lv_at hl 1 rfl) ?_
  refine lv_iload_n hx hb dL_settled_4 rfl (lv_at hl 2 rfl) ?_
  have hF := freeL hD hS hA
  refine va_calli (va_runV (As := [.int (nI j), .int (nI d)]) (rest := [.int 0, .ref o]) ⟨hx, hb, hml, hown, hts⟩ (kX0_settled l dC dI cI cZ cA a s.heap.size n am rf mk wv lo cf tf T mt im j d hd hG hT hj) (cwV 2 hts gL_settled_X0_settled rfl rfl rfl (by decide +kernel) ⟨Nat.le_of_ble_eq_true rfl, Nat.le_of_ble_eq_true rfl⟩) ⟨blindW, va_recv hKg (pL hP) (ci := 0) (q0 := 0) rfl rfl, preW (pL hP) hKg (dL hD)⟩ rfl rfl hl.1 rfl (lv_room (Nat.le_of_ble_eq_true rfl)) dL_settled_5 ⟨Nat.zero_le _, Nat.zero_le _⟩) hS (fun q _ h => hF q h) hF (fun r_ u tS H1 locs htS hvm hw hB hz1 hk1 hS => ?_)
  obtain ⟨hP1, hK1, hD1⟩ := hB
  rw [htS] at hP1
  obtain ⟨hP, hD⟩ := joinL hP hD hk1 hF hP1 hD1
  generalize H1 = H at hP hS ⊢
  obtain ⟨rfl, hsp⟩ := hw
  have hP : va_P (dC, dI) vwCl (XW cI cZ cA a n am (u.1) mk wv lo cf tf (u.2) mt im ++ OW o cJ fo) H := hP
  have hD : va_D A (XW cI cZ cA a n am (u.1) mk wv lo cf tf (u.2) mt im ++ OW o cJ fo) := hD
  refine W.eq (g2 := F0 m 8 ls [.int (nI (set_ (fun e => vv wv lo cf tf e j) (vv wv lo cf tf d j) d)), .int 0, .ref o]) rfl ?_
  refine lv_i2l hx hb dL_settled_8 rfl ?_
  refine va_last hx hb hK hP hD hS 16 3 OW_at rfl in_0 dL_settled_9 (fun H locs hP hD hS => ?_)
  rw [sb_cl0, OW_set] at hP hD
  refine lv_goto (tgt := 17) hx hb dL_settled_10 (by decide) ?_
  refine lv_iconst (v := 0) hx hb dL_settled_17 (by decide) ?_
  exact W.iret (v := 0) hx hb hr (fun t ht hW => ⟨⟨0, u, rfl, ⟨rfl, hsp⟩, by rw [ht]; exact hP, va_K.moved hW.alike hK, hD⟩, hS.F ht⟩) hS.2.2 dL_settled_18
set_option maxHeartbeats 4000000 in
set_option maxRecDepth 100000 in
theorem kL_reaches (l : Launch) (dC : Nat → ClassId) (dI : Nat → Nat → Nat) (cI cZ cA cJ : ClassId) (a : Nat → Nat) (o : Nat) (fo : Nat → Int64) (sz : Nat) (n : Nat) (am : Nat) (rf : Nat) (mk : Nat) (wv : Nat → Int32) (lo : Nat → Int32) (cf : Nat → Nat) (tf : Nat → Nat) (T : Nat → Nat → Int32) (mt : Nat → Nat) (im : Nat → Int32) (j d : Nat) (v : Int32) (hd : d < 8) (hG : Gok n wv lo cf tf) (hT : Tok n wv lo cf tf rf T) (hj : j < n) : Met l yL_reaches wsL_reaches ({ frames := 8, cells := 0, slots := 0, locals := 135 }) (va_Pc [.ref (a 0), .int (nI j), .int (nI d), .int v, .ref o] (WP dC dI (GJ cI cZ cA cJ) (XW cI cZ cA a n am rf mk wv lo cf tf T mt im ++ OW o cJ fo) sz)) (va_Qi (fun r (u : Nat × (Nat → Nat → Int32)) => r = 0 ∧ Tok n wv lo cf tf u.1 u.2) (fun u => WQ dC dI (GJ cI cZ cA cJ) (va_A (XW cI cZ cA a n am rf mk wv lo cf tf T mt im ++ OW o cJ fo) sz) (XW cI cZ cA a n am (u.1) mk wv lo cf tf (u.2) mt im ++ OW o cJ (vp_updL fo 0 (if rea (vv wv lo cf tf d j) v = 0 then 0 else 1)))) (va_A (XW cI cZ cA a n am rf mk wv lo cf tf T mt im ++ OW o cJ fo) sz)) 0 0 (va_A (XW cI cZ cA a n am rf mk wv lo cf tf T mt im ++ OW o cJ fo) sz) := by
  refine va_MetW (cc := cL_reaches) (maxL := 6) (ret := (some .int)) (hh := [(0, 19, 22, 13)]) (by decide) rfl ?_
  intro p e s m args below meth c s₁ B hml hv
  obtain ⟨rfl, hsz, hP, hK, hD0⟩ := hv
  have hx := B.exec
  have hb := B.bytes
  have hr := B.returns
  have hts := atoms_spec (ws := wsL_reaches) B.pre
  have hown : s.vm.findClass RL = some m.cls := findClass_of_methodNamed B.named
  have hlocks := B.notSynchronized
  subst hsz
  have hD := hD0.self (sz := s.heap.size)
  generalize hAe : va_A (XW cI cZ cA a n am rf mk wv lo cf tf T mt im ++ OW o cJ fo) s.heap.size = A at hD ⊢
  have hA : ∀ q : Nat, s.heap.size ≤ q → A q := fun q h => by rw [← hAe]; exact Or.inr h
  have hS : va_S A s.heap s.heap [] := va_S.rf
  have hP : va_P (dC, dI) vwCl (XW cI cZ cA a n am rf mk wv lo cf tf T mt im ++ OW o cJ fo) s.heap := hP
  have hKg := hK.sub (tys' := GT cI cZ cA) [0, 1, 2] rfl
  have hl := lv_entry ([.ref (a 0), .int (nI j), .int (nI d), .int v, .ref o]) (n := 6) (Nat.le_of_ble_eq_true rfl)
  rw [lg_entry_eq]
  generalize (lg_sl ([.ref (a 0), .int (nI j), .int (nI d), .int v, .ref o]) ++ List.replicate (6 - (lg_sl ([.ref (a 0), .int (nI j), .int (nI d), .int v, .ref o])).length) Slot.unset).toArray = ls at hl ⊢
  have hl : lv_has ls 6 [(0, .ref (a 0)), (1, .int (nI j)), (2, .int (nI d)), (3, .int v), (4, .ref o)] := hl
  refine lv_aload hx hb dL_reaches_0 (lv_at hl 4 rfl) ?_
  refine lv_iconst (v := 0) hx hb dL_reaches_2 (by decide) ?_
  refine lv_aload_n hx hb dL_reaches_3 rfl (lv_at hl 0 rfl) ?_
  refine lv_iload_n hx hb dL_reaches_4 rfl (lv_at hl 1 rfl) ?_
  refine lv_iload_n hx hb dL_reaches_5 rfl (lv_at hl 2 rfl) ?_
  refine lv_iload_n hx hb dL_reaches_6 rfl (lv_at hl 3 rfl) ?_
  have hF := freeL hD hS hA
  refine va_calli (va_runV (As := [.int (nI j), .int (nI d), .int v]) (rest := [.int 0, .ref o]) ⟨hx, hb, hml, hown, hts⟩ (kX0_reaches l dC dI cI cZ cA a s.heap.size n am rf mk wv lo cf tf T mt im j d v hd hG hT hj) (cwV 3 hts gL_reaches_X0_reaches rfl rfl rfl (by decide +kernel) ⟨Nat.le_of_ble_eq_true rfl, Nat.le_of_ble_eq_true rfl⟩) ⟨blindW, va_recv hKg (pL hP) (ci := 0) (q0 := 0) rfl rfl, preW (pL hP) hKg (dL hD)⟩ rfl rfl hl.1 rfl (lv_room (Nat.le_of_ble_eq_true rfl)) dL_reaches_7 ⟨Nat.zero_le _, Nat.zero_le _⟩) hS (fun q _ h => hF q h) hF (fun r_ u tS H1 locs htS hvm hw hB hz1 hk1 hS => ?_)
  obtain ⟨hP1, hK1, hD1⟩ := hB
  rw [htS] at hP1
  obtain ⟨hP, hD⟩ := joinL hP hD hk1 hF hP1 hD1
  generalize H1 = H at hP hS ⊢
  obtain ⟨rfl, hsp⟩ := hw
  have hP : va_P (dC, dI) vwCl (XW cI cZ cA a n am (u.1) mk wv lo cf tf (u.2) mt im ++ OW o cJ fo) H := hP
  have hD : va_D A (XW cI cZ cA a n am (u.1) mk wv lo cf tf (u.2) mt im ++ OW o cJ fo) := hD
  refine W.eq (g2 := F0 m 10 ls [.int (rea (vv wv lo cf tf d j) v), .int 0, .ref o]) rfl ?_
  refine lv_if_eq (tgt := 17) hx hb dL_reaches_10 (by decide) (fun h10 => ?_) (fun h10 => ?_)
  · refine lv_lconst (v := 0) hx hb dL_reaches_17 rfl ?_
    rw [if_pos h10]
    refine va_last hx hb hK hP hD hS 16 3 OW_at rfl in_0 dL_reaches_18 (fun H locs hP hD hS => ?_)
    rw [sb_cl0, OW_set] at hP hD
    refine lv_goto (tgt := 26) hx hb dL_reaches_19 (by decide) ?_
    refine lv_iconst (v := 0) hx hb dL_reaches_26 (by decide) ?_
    exact W.iret (v := 0) hx hb hr (fun t ht hW => ⟨⟨0, u, rfl, ⟨rfl, hsp⟩, by rw [ht]; exact hP, va_K.moved hW.alike hK, hD⟩, hS.F ht⟩) hS.2.2 dL_reaches_27
  · refine lv_lconst (v := 1) hx hb dL_reaches_13 rfl ?_
    refine lv_goto (tgt := 18) hx hb dL_reaches_14 (by decide) ?_
    rw [if_neg h10]
    refine va_last hx hb hK hP hD hS 16 3 OW_at rfl in_0 dL_reaches_18 (fun H locs hP hD hS => ?_)
    rw [sb_cl0, OW_set] at hP hD
    refine lv_goto (tgt := 26) hx hb dL_reaches_19 (by decide) ?_
    refine lv_iconst (v := 0) hx hb dL_reaches_26 (by decide) ?_
    exact W.iret (v := 0) hx hb hr (fun t ht hW => ⟨⟨0, u, rfl, ⟨rfl, hsp⟩, by rw [ht]; exact hP, va_K.moved hW.alike hK, hD⟩, hS.F ht⟩) hS.2.2 dL_reaches_27
set_option maxHeartbeats 4000000 in
set_option maxRecDepth 100000 in
theorem kL_line (l : Launch) (dC : Nat → ClassId) (dI : Nat → Nat → Nat) (cI cZ cA cJ : ClassId) (a : Nat → Nat) (o : Nat) (fo : Nat → Int64) (sz : Nat) (n : Nat) (am : Nat) (rf : Nat) (mk : Nat) (wv : Nat → Int32) (lo : Nat → Int32) (cf : Nat → Nat) (tf : Nat → Nat) (T : Nat → Nat → Int32) (mt : Nat → Nat) (im : Nat → Int32) (j d i : Nat) (hd : d < 8) (hG : Gok n wv lo cf tf) (hT : Tok n wv lo cf tf rf T) (hj : j < n) (hi : i ≤ d) : Met l yL_line wsL_line ({ frames := 8, cells := 0, slots := 0, locals := 138 }) (va_Pc [.ref (a 0), .int (nI j), .int (nI d), .int (nI i), .ref o] (WP dC dI (GJ cI cZ cA cJ) (XW cI cZ cA a n am rf mk wv lo cf tf T mt im ++ OW o cJ fo) sz)) (va_Qi (fun r (u : Nat × (Nat → Nat → Int32)) => r = 0 ∧ Tok n wv lo cf tf u.1 u.2) (fun u => WQ dC dI (GJ cI cZ cA cJ) (va_A (XW cI cZ cA a n am rf mk wv lo cf tf T mt im ++ OW o cJ fo) sz) (XW cI cZ cA a n am (u.1) mk wv lo cf tf (u.2) mt im ++ OW o cJ (vp_updL fo 0 (lin cf tf (vv wv lo cf tf) i j d).toInt64))) (va_A (XW cI cZ cA a n am rf mk wv lo cf tf T mt im ++ OW o cJ fo) sz)) 0 0 (va_A (XW cI cZ cA a n am rf mk wv lo cf tf T mt im ++ OW o cJ fo) sz) := by
  refine va_MetW (cc := cL_line) (maxL := 6) (ret := (some .int)) (hh := [(0, 12, 15, 13)]) (by decide) rfl ?_
  intro p e s m args below meth c s₁ B hml hv
  obtain ⟨rfl, hsz, hP, hK, hD0⟩ := hv
  have hx := B.exec
  have hb := B.bytes
  have hr := B.returns
  have hts := atoms_spec (ws := wsL_line) B.pre
  have hown : s.vm.findClass RL = some m.cls := findClass_of_methodNamed B.named
  have hlocks := B.notSynchronized
  subst hsz
  have hD := hD0.self (sz := s.heap.size)
  generalize hAe : va_A (XW cI cZ cA a n am rf mk wv lo cf tf T mt im ++ OW o cJ fo) s.heap.size = A at hD ⊢
  have hA : ∀ q : Nat, s.heap.size ≤ q → A q := fun q h => by rw [← hAe]; exact Or.inr h
  have hS : va_S A s.heap s.heap [] := va_S.rf
  have hP : va_P (dC, dI) vwCl (XW cI cZ cA a n am rf mk wv lo cf tf T mt im ++ OW o cJ fo) s.heap := hP
  have hKg := hK.sub (tys' := GT cI cZ cA) [0, 1, 2] rfl
  have hl := lv_entry ([.ref (a 0), .int (nI j), .int (nI d), .int (nI i), .ref o]) (n := 6) (Nat.le_of_ble_eq_true rfl)
  rw [lg_entry_eq]
  generalize (lg_sl ([.ref (a 0), .int (nI j), .int (nI d), .int (nI i), .ref o]) ++ List.replicate (6 - (lg_sl ([.ref (a 0), .int (nI j), .int (nI d), .int (nI i), .ref o])).length) Slot.unset).toArray = ls at hl ⊢
  have hl : lv_has ls 6 [(0, .ref (a 0)), (1, .int (nI j)), (2, .int (nI d)), (3, .int (nI i)), (4, .ref o)] := hl
  refine lv_aload hx hb dL_line_0 (lv_at hl 4 rfl) ?_
  refine lv_iconst (v := 0) hx hb dL_line_2 (by decide) ?_
  refine lv_aload_n hx hb dL_line_3 rfl (lv_at hl 0 rfl) ?_
  refine lv_iload_n hx hb dL_line_4 rfl (lv_at hl 1 rfl) ?_
  refine lv_iload_n hx hb dL_line_5 rfl (lv_at hl 2 rfl) ?_
  refine lv_iload_n hx hb dL_line_6 rfl (lv_at hl 3 rfl) ?_
  have hF := freeL hD hS hA
  refine va_calli (va_runV (As := [.int (nI j), .int (nI d), .int (nI i)]) (rest := [.int 0, .ref o]) ⟨hx, hb, hml, hown, hts⟩ (kX0_line l dC dI cI cZ cA a s.heap.size n am rf mk wv lo cf tf T mt im j d i hd hG hT hj hi) (cwV 3 hts gL_line_X0_line rfl rfl rfl (by decide +kernel) ⟨Nat.le_of_ble_eq_true rfl, Nat.le_of_ble_eq_true rfl⟩) ⟨blindW, va_recv hKg (pL hP) (ci := 0) (q0 := 0) rfl rfl, preW (pL hP) hKg (dL hD)⟩ rfl rfl hl.1 rfl (lv_room (Nat.le_of_ble_eq_true rfl)) dL_line_7 ⟨Nat.zero_le _, Nat.zero_le _⟩) hS (fun q _ h => hF q h) hF (fun r_ u tS H1 locs htS hvm hw hB hz1 hk1 hS => ?_)
  obtain ⟨hP1, hK1, hD1⟩ := hB
  rw [htS] at hP1
  obtain ⟨hP, hD⟩ := joinL hP hD hk1 hF hP1 hD1
  generalize H1 = H at hP hS ⊢
  obtain ⟨rfl, hsp⟩ := hw
  have hP : va_P (dC, dI) vwCl (XW cI cZ cA a n am (u.1) mk wv lo cf tf (u.2) mt im ++ OW o cJ fo) H := hP
  have hD : va_D A (XW cI cZ cA a n am (u.1) mk wv lo cf tf (u.2) mt im ++ OW o cJ fo) := hD
  refine W.eq (g2 := F0 m 10 ls [.int (lin cf tf (vv wv lo cf tf) i j d), .int 0, .ref o]) rfl ?_
  refine lv_i2l hx hb dL_line_10 rfl ?_
  refine va_last hx hb hK hP hD hS 16 3 OW_at rfl in_0 dL_line_11 (fun H locs hP hD hS => ?_)
  rw [sb_cl0, OW_set] at hP hD
  refine lv_goto (tgt := 19) hx hb dL_line_12 (by decide) ?_
  refine lv_iconst (v := 0) hx hb dL_line_19 (by decide) ?_
  exact W.iret (v := 0) hx hb hr (fun t ht hW => ⟨⟨0, u, rfl, ⟨rfl, hsp⟩, by rw [ht]; exact hP, va_K.moved hW.alike hK, hD⟩, hS.F ht⟩) hS.2.2 dL_line_20
set_option maxHeartbeats 4000000 in
set_option maxRecDepth 100000 in
theorem kL_around (l : Launch) (dC : Nat → ClassId) (dI : Nat → Nat → Nat) (cI cZ cA cJ : ClassId) (a : Nat → Nat) (o : Nat) (fo : Nat → Int64) (sz : Nat) (n : Nat) (am : Nat) (rf : Nat) (mk : Nat) (wv : Nat → Int32) (lo : Nat → Int32) (cf : Nat → Nat) (tf : Nat → Nat) (T : Nat → Nat → Int32) (mt : Nat → Nat) (im : Nat → Int32) (x d : Nat) (hd : d < 8) (hG : Gok n wv lo cf tf) (hM : Mkeep mk mt im) (hxn : x < n) : Met l yL_around wsL_around ({ frames := 8, cells := 0, slots := 0, locals := 129 }) (va_Pc [.ref (a 0), .int (nI x), .int (nI d), .ref o] (WP dC dI (GJ cI cZ cA cJ) (XW cI cZ cA a n am rf mk wv lo cf tf T mt im ++ OW o cJ fo) sz)) (va_Qi (fun r (u : Nat × (Nat → Nat) × (Nat → Int32)) => r = 0 ∧ Mkeep u.1 u.2.1 u.2.2) (fun u => WQ dC dI (GJ cI cZ cA cJ) (va_A (XW cI cZ cA a n am rf mk wv lo cf tf T mt im ++ OW o cJ fo) sz) (XW cI cZ cA a n am rf (u.1) wv lo cf tf T (u.2.1) (u.2.2) ++ OW o cJ (vp_updL fo 0 (nI (cntP (rch cf tf x d) n)).toInt64))) (va_A (XW cI cZ cA a n am rf mk wv lo cf tf T mt im ++ OW o cJ fo) sz)) 0 0 (va_A (XW cI cZ cA a n am rf mk wv lo cf tf T mt im ++ OW o cJ fo) sz) := by
  refine va_MetW (cc := cL_around) (maxL := 5) (ret := (some .int)) (hh := [(0, 10, 13, 13)]) (by decide) rfl ?_
  intro p e s m args below meth c s₁ B hml hv
  obtain ⟨rfl, hsz, hP, hK, hD0⟩ := hv
  have hx := B.exec
  have hb := B.bytes
  have hr := B.returns
  have hts := atoms_spec (ws := wsL_around) B.pre
  have hown : s.vm.findClass RL = some m.cls := findClass_of_methodNamed B.named
  have hlocks := B.notSynchronized
  subst hsz
  have hD := hD0.self (sz := s.heap.size)
  generalize hAe : va_A (XW cI cZ cA a n am rf mk wv lo cf tf T mt im ++ OW o cJ fo) s.heap.size = A at hD ⊢
  have hA : ∀ q : Nat, s.heap.size ≤ q → A q := fun q h => by rw [← hAe]; exact Or.inr h
  have hS : va_S A s.heap s.heap [] := va_S.rf
  have hP : va_P (dC, dI) vwCl (XW cI cZ cA a n am rf mk wv lo cf tf T mt im ++ OW o cJ fo) s.heap := hP
  have hKg := hK.sub (tys' := GT cI cZ cA) [0, 1, 2] rfl
  have hl := lv_entry ([.ref (a 0), .int (nI x), .int (nI d), .ref o]) (n := 5) (Nat.le_of_ble_eq_true rfl)
  rw [lg_entry_eq]
  generalize (lg_sl ([.ref (a 0), .int (nI x), .int (nI d), .ref o]) ++ List.replicate (5 - (lg_sl ([.ref (a 0), .int (nI x), .int (nI d), .ref o])).length) Slot.unset).toArray = ls at hl ⊢
  have hl : lv_has ls 5 [(0, .ref (a 0)), (1, .int (nI x)), (2, .int (nI d)), (3, .ref o)] := hl
  refine lv_aload_n hx hb dL_around_0 rfl (lv_at hl 3 rfl) ?_
  refine lv_iconst (v := 0) hx hb dL_around_1 (by decide) ?_
  refine lv_aload_n hx hb dL_around_2 rfl (lv_at hl 0 rfl) ?_
  refine lv_iload_n hx hb dL_around_3 rfl (lv_at hl 1 rfl) ?_
  refine lv_iload_n hx hb dL_around_4 rfl (lv_at hl 2 rfl) ?_
  have hF := freeL hD hS hA
  refine va_calli (va_runV (As := [.int (nI x), .int (nI d)]) (rest := [.int 0, .ref o]) ⟨hx, hb, hml, hown, hts⟩ (kX0_around l dC dI cI cZ cA a s.heap.size n am rf mk wv lo cf tf T mt im x d hd hG hM hxn) (cwV 2 hts gL_around_X0_around rfl rfl rfl (by decide +kernel) ⟨Nat.le_of_ble_eq_true rfl, Nat.le_of_ble_eq_true rfl⟩) ⟨blindW, va_recv hKg (pL hP) (ci := 0) (q0 := 0) rfl rfl, preW (pL hP) hKg (dL hD)⟩ rfl rfl hl.1 rfl (lv_room (Nat.le_of_ble_eq_true rfl)) dL_around_5 ⟨Nat.zero_le _, Nat.zero_le _⟩) hS (fun q _ h => hF q h) hF (fun r_ u tS H1 locs htS hvm hw hB hz1 hk1 hS => ?_)
  obtain ⟨hP1, hK1, hD1⟩ := hB
  rw [htS] at hP1
  obtain ⟨hP, hD⟩ := joinL hP hD hk1 hF hP1 hD1
  generalize H1 = H at hP hS ⊢
  obtain ⟨rfl, hsp⟩ := hw
  have hP : va_P (dC, dI) vwCl (XW cI cZ cA a n am rf (u.1) wv lo cf tf T (u.2.1) (u.2.2) ++ OW o cJ fo) H := hP
  have hD : va_D A (XW cI cZ cA a n am rf (u.1) wv lo cf tf T (u.2.1) (u.2.2) ++ OW o cJ fo) := hD
  refine W.eq (g2 := F0 m 8 ls [.int (nI (cntP (rch cf tf x d) n)), .int 0, .ref o]) rfl ?_
  refine lv_i2l hx hb dL_around_8 rfl ?_
  refine va_last hx hb hK hP hD hS 16 3 OW_at rfl in_0 dL_around_9 (fun H locs hP hD hS => ?_)
  rw [sb_cl0, OW_set] at hP hD
  refine lv_goto (tgt := 17) hx hb dL_around_10 (by decide) ?_
  refine lv_iconst (v := 0) hx hb dL_around_17 (by decide) ?_
  exact W.iret (v := 0) hx hb hr (fun t ht hW => ⟨⟨0, u, rfl, ⟨rfl, hsp⟩, by rw [ht]; exact hP, va_K.moved hW.alike hK, hD⟩, hS.F ht⟩) hS.2.2 dL_around_18
set_option maxHeartbeats 4000000 in
set_option maxRecDepth 100000 in
theorem kL_node (l : Launch) (dC : Nat → ClassId) (dI : Nat → Nat → Nat) (cI cZ cA cJ : ClassId) (a : Nat → Nat) (o : Nat) (fo : Nat → Int64) (sz : Nat) (n : Nat) (am : Nat) (rf : Nat) (mk : Nat) (wv : Nat → Int32) (lo : Nat → Int32) (cf : Nat → Nat) (tf : Nat → Nat) (T : Nat → Nat → Int32) (mt : Nat → Nat) (im : Nat → Int32) (v b : Int32) (hn4 : n < 400) (hv : iw v = 1) (hz : b = 0 ∨ b = 1) : Met l yL_node wsL_node ({ frames := 7, cells := 0, slots := 0, locals := 105 }) (va_Pc [.ref (a 0), .int v, .int b, .ref o] (WP dC dI (GJ cI cZ cA cJ) (XW cI cZ cA a n am rf mk wv lo cf tf T mt im ++ OW o cJ fo) sz)) (va_Qi (fun r (u : Unit) => r = 0) (fun u => WQ dC dI (GJ cI cZ cA cJ) (va_A (XW cI cZ cA a n am rf mk wv lo cf tf T mt im ++ OW o cJ fo) sz) (XW cI cZ cA a (n + 1) am 0 mk (upd wv n v) (upd lo n b) cf tf T mt im ++ OW o cJ (vp_updL fo 0 (nI n).toInt64))) (va_A (XW cI cZ cA a n am rf mk wv lo cf tf T mt im ++ OW o cJ fo) sz)) 0 0 (va_A (XW cI cZ cA a n am rf mk wv lo cf tf T mt im ++ OW o cJ fo) sz) := by
  refine va_MetW (cc := cL_node) (maxL := 5) (ret := (some .int)) (hh := [(0, 10, 13, 13), (0, 10, 17, 15)]) (by decide) rfl ?_
  intro p e s m args below meth c s₁ B hml hv
  obtain ⟨rfl, hsz, hP, hK, hD0⟩ := hv
  have hx := B.exec
  have hb := B.bytes
  have hr := B.returns
  have hts := atoms_spec (ws := wsL_node) B.pre
  have hown : s.vm.findClass RL = some m.cls := findClass_of_methodNamed B.named
  have hlocks := B.notSynchronized
  subst hsz
  have hD := hD0.self (sz := s.heap.size)
  generalize hAe : va_A (XW cI cZ cA a n am rf mk wv lo cf tf T mt im ++ OW o cJ fo) s.heap.size = A at hD ⊢
  have hA : ∀ q : Nat, s.heap.size ≤ q → A q := fun q h => by rw [← hAe]; exact Or.inr h
  have hS : va_S A s.heap s.heap [] := va_S.rf
  have hP : va_P (dC, dI) vwCl (XW cI cZ cA a n am rf mk wv lo cf tf T mt im ++ OW o cJ fo) s.heap := hP
  have hKg := hK.sub (tys' := GT cI cZ cA) [0, 1, 2] rfl
  have hl := lv_entry ([.ref (a 0), .int v, .int b, .ref o]) (n := 5) (Nat.le_of_ble_eq_true rfl)
  rw [lg_entry_eq]
  generalize (lg_sl ([.ref (a 0), .int v, .int b, .ref o]) ++ List.replicate (5 - (lg_sl ([.ref (a 0), .int v, .int b, .ref o])).length) Slot.unset).toArray = ls at hl ⊢
  have hl : lv_has ls 5 [(0, .ref (a 0)), (1, .int v), (2, .int b), (3, .ref o)] := hl
  refine lv_aload_n hx hb dL_node_0 rfl (lv_at hl 3 rfl) ?_
  refine lv_iconst (v := 0) hx hb dL_node_1 (by decide) ?_
  refine lv_aload_n hx hb dL_node_2 rfl (lv_at hl 0 rfl) ?_
  refine lv_iload_n hx hb dL_node_3 rfl (lv_at hl 1 rfl) ?_
  refine lv_iload_n hx hb dL_node_4 rfl (lv_at hl 2 rfl) ?_
  have hF := freeL hD hS hA
  refine va_calli (va_runV (As := [.int v, .int b]) (rest := [.int 0, .ref o]) ⟨hx, hb, hml, hown, hts⟩ (kX0_node l dC dI cI cZ cA a s.heap.size n am rf mk wv lo cf tf T mt im v b hn4 hv hz) (cwV 2 hts gL_node_X0_node rfl rfl rfl (by decide +kernel) ⟨Nat.le_of_ble_eq_true rfl, Nat.le_of_ble_eq_true rfl⟩) ⟨blindW, va_recv hKg (pL hP) (ci := 0) (q0 := 0) rfl rfl, preW (pL hP) hKg (dL hD)⟩ rfl rfl hl.1 rfl (lv_room (Nat.le_of_ble_eq_true rfl)) dL_node_5 ⟨Nat.zero_le _, Nat.zero_le _⟩) hS (fun q _ h => hF q h) hF (fun r_ u tS H1 locs htS hvm hw hB hz1 hk1 hS => ?_)
  obtain ⟨hP1, hK1, hD1⟩ := hB
  rw [htS] at hP1
  obtain ⟨hP, hD⟩ := joinL hP hD hk1 hF hP1 hD1
  generalize H1 = H at hP hS ⊢
  obtain rfl : r_ = nI n := hw
  have hP : va_P (dC, dI) vwCl (XW cI cZ cA a (n + 1) am 0 mk (upd wv n v) (upd lo n b) cf tf T mt im ++ OW o cJ fo) H := hP
  have hD : va_D A (XW cI cZ cA a (n + 1) am 0 mk (upd wv n v) (upd lo n b) cf tf T mt im ++ OW o cJ fo) := hD
  refine W.eq (g2 := F0 m 8 ls [.int (nI n), .int 0, .ref o]) rfl ?_
  refine lv_i2l hx hb dL_node_8 rfl ?_
  refine va_last hx hb hK hP hD hS 16 3 OW_at rfl in_0 dL_node_9 (fun H locs hP hD hS => ?_)
  rw [sb_cl0, OW_set] at hP hD
  refine lv_goto (tgt := 21) hx hb dL_node_10 (by decide) ?_
  refine lv_iconst (v := 0) hx hb dL_node_21 (by decide) ?_
  exact W.iret (v := 0) hx hb hr (fun t ht hW => ⟨⟨0, u, rfl, rfl, by rw [ht]; exact hP, va_K.moved hW.alike hK, hD⟩, hS.F ht⟩) hS.2.2 dL_node_22
set_option maxHeartbeats 4000000 in
set_option maxRecDepth 100000 in
theorem kL_move (l : Launch) (dC : Nat → ClassId) (dI : Nat → Nat → Nat) (cI cZ cA cJ : ClassId) (a : Nat → Nat) (o : Nat) (fo : Nat → Int64) (sz : Nat) (n : Nat) (am : Nat) (rf : Nat) (mk : Nat) (wv : Nat → Int32) (lo : Nat → Int32) (cf : Nat → Nat) (tf : Nat → Nat) (T : Nat → Nat → Int32) (mt : Nat → Nat) (im : Nat → Int32) (i j : Nat) (hn4 : n ≤ 400) (hi : i < n) (hj : j < n) (hc : cf i < 6) : Met l yL_move wsL_move ({ frames := 7, cells := 0, slots := 0, locals := 105 }) (va_Pc [.ref (a 0), .int (nI i), .int (nI j), .ref o] (WP dC dI (GJ cI cZ cA cJ) (XW cI cZ cA a n am rf mk wv lo cf tf T mt im ++ OW o cJ fo) sz)) (va_Qi (fun r (u : Unit) => r = 0) (fun u => WQ dC dI (GJ cI cZ cA cJ) (va_A (XW cI cZ cA a n am rf mk wv lo cf tf T mt im ++ OW o cJ fo) sz) (XW cI cZ cA a n (am + 1) 0 mk wv lo (va_up cf i (cf i + 1)) (va_up tf (i * 6 + cf i) j) T mt im ++ OW o cJ (vp_updL fo 0 (nI (cf i)).toInt64))) (va_A (XW cI cZ cA a n am rf mk wv lo cf tf T mt im ++ OW o cJ fo) sz)) 0 0 (va_A (XW cI cZ cA a n am rf mk wv lo cf tf T mt im ++ OW o cJ fo) sz) := by
  refine va_MetW (cc := cL_move) (maxL := 5) (ret := (some .int)) (hh := [(0, 10, 13, 13), (0, 10, 17, 15)]) (by decide) rfl ?_
  intro p e s m args below meth c s₁ B hml hv
  obtain ⟨rfl, hsz, hP, hK, hD0⟩ := hv
  have hx := B.exec
  have hb := B.bytes
  have hr := B.returns
  have hts := atoms_spec (ws := wsL_move) B.pre
  have hown : s.vm.findClass RL = some m.cls := findClass_of_methodNamed B.named
  have hlocks := B.notSynchronized
  subst hsz
  have hD := hD0.self (sz := s.heap.size)
  generalize hAe : va_A (XW cI cZ cA a n am rf mk wv lo cf tf T mt im ++ OW o cJ fo) s.heap.size = A at hD ⊢
  have hA : ∀ q : Nat, s.heap.size ≤ q → A q := fun q h => by rw [← hAe]; exact Or.inr h
  have hS : va_S A s.heap s.heap [] := va_S.rf
  have hP : va_P (dC, dI) vwCl (XW cI cZ cA a n am rf mk wv lo cf tf T mt im ++ OW o cJ fo) s.heap := hP
  have hKg := hK.sub (tys' := GT cI cZ cA) [0, 1, 2] rfl
  have hl := lv_entry ([.ref (a 0), .int (nI i), .int (nI j), .ref o]) (n := 5) (Nat.le_of_ble_eq_true rfl)
  rw [lg_entry_eq]
  generalize (lg_sl ([.ref (a 0), .int (nI i), .int (nI j), .ref o]) ++ List.replicate (5 - (lg_sl ([.ref (a 0), .int (nI i), .int (nI j), .ref o])).length) Slot.unset).toArray = ls at hl ⊢
  have hl : lv_has ls 5 [(0, .ref (a 0)), (1, .int (nI i)), (2, .int (nI j)), (3, .ref o)] := hl
  refine lv_aload_n hx hb dL_move_0 rfl (lv_at hl 3 rfl) ?_
  refine lv_iconst (v := 0) hx hb dL_move_1 (by decide) ?_
  refine lv_aload_n hx hb dL_move_2 rfl (lv_at hl 0 rfl) ?_
  refine lv_iload_n hx hb dL_move_3 rfl (lv_at hl 1 rfl) ?_
  refine lv_iload_n hx hb dL_move_4 rfl (lv_at hl 2 rfl) ?_
  have hF := freeL hD hS hA
  refine va_calli (va_runV (As := [.int (nI i), .int (nI j)]) (rest := [.int 0, .ref o]) ⟨hx, hb, hml, hown, hts⟩ (kX0_move l dC dI cI cZ cA a s.heap.size n am rf mk wv lo cf tf T mt im i j hn4 hi hj hc) (cwV 2 hts gL_move_X0_move rfl rfl rfl (by decide +kernel) ⟨Nat.le_of_ble_eq_true rfl, Nat.le_of_ble_eq_true rfl⟩) ⟨blindW, va_recv hKg (pL hP) (ci := 0) (q0 := 0) rfl rfl, preW (pL hP) hKg (dL hD)⟩ rfl rfl hl.1 rfl (lv_room (Nat.le_of_ble_eq_true rfl)) dL_move_5 ⟨Nat.zero_le _, Nat.zero_le _⟩) hS (fun q _ h => hF q h) hF (fun r_ u tS H1 locs htS hvm hw hB hz1 hk1 hS => ?_)
  obtain ⟨hP1, hK1, hD1⟩ := hB
  rw [htS] at hP1
  obtain ⟨hP, hD⟩ := joinL hP hD hk1 hF hP1 hD1
  generalize H1 = H at hP hS ⊢
  obtain rfl : r_ = nI (cf i) := hw
  have hP : va_P (dC, dI) vwCl (XW cI cZ cA a n (am + 1) 0 mk wv lo (va_up cf i (cf i + 1)) (va_up tf (i * 6 + cf i) j) T mt im ++ OW o cJ fo) H := hP
  have hD : va_D A (XW cI cZ cA a n (am + 1) 0 mk wv lo (va_up cf i (cf i + 1)) (va_up tf (i * 6 + cf i) j) T mt im ++ OW o cJ fo) := hD
  refine W.eq (g2 := F0 m 8 ls [.int (nI (cf i)), .int 0, .ref o]) rfl ?_
  refine lv_i2l hx hb dL_move_8 rfl ?_
  refine va_last hx hb hK hP hD hS 16 3 OW_at rfl in_0 dL_move_9 (fun H locs hP hD hS => ?_)
  rw [sb_cl0, OW_set] at hP hD
  refine lv_goto (tgt := 21) hx hb dL_move_10 (by decide) ?_
  refine lv_iconst (v := 0) hx hb dL_move_21 (by decide) ?_
  exact W.iret (v := 0) hx hb hr (fun t ht hW => ⟨⟨0, u, rfl, rfl, by rw [ht]; exact hP, va_K.moved hW.alike hK, hD⟩, hS.F ht⟩) hS.2.2 dL_move_22
