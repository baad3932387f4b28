set_option maxHeartbeats 4000000 in
set_option maxRecDepth 100000 in
theorem nL_value (l : Launch) (hl9 : l.stackTraces = false) (dC : Nat → ClassId) (dI : Nat → Nat → Nat) (cI cZ cA cJ : ClassId) (a : Nat → Nat) (o : Nat) (fo : Nat → Int64) (sz : Nat) (sa : Nat → Nat) (n : Nat) (am : Nat) (rf : Nat) (mk : Nat) (wv : Nat → Int32) (lo : Nat → Int32) (cf : Nat → Nat) (tf : Nat → Nat) (T : Nat → Nat → Int32) (mt : Nat → Nat) (im : Nat → Int32) (x d : Int32) (hB : Bad n x d) : Met l yL_value wsL_value ({ frames := 8, cells := 1, slots := 6, locals := 134 }) (va_Pc [.ref (a 0), .int x, .int d, .ref o] (TP dC dI (GJ cI cZ cA cJ) (XW cI cZ cA a n am rf mk wv lo cf tf T mt im ++ OW o cJ fo) sz sa)) (va_Qi (fun r (_ : Unit) => r = 1) (fun _ _ => True) (fun q => sz ≤ q)) 1 6 (fun q => sz ≤ q) := by
  refine va_MetW (cc := cL_value) (maxL := 5) (ret := (some .int)) (hh := [(0, 10, 13, 13)]) (by decide) rfl ?_
  intro p e s m args below meth c s₁ B hml hv
  obtain ⟨rfl, hsz, ⟨hP, hK⟩, hE⟩ := hv
  have hx := B.exec
  have hb := B.bytes
  have hr := B.returns
  have hts := atoms_spec (ws := wsL_value) B.pre
  have hown : s.vm.findClass RL = some m.cls := findClass_of_methodNamed B.named
  have hlocks := B.notSynchronized
  subst hsz
  have hKg := hK.sub (tys' := GT cI cZ cA) [0, 1, 2] rfl
  have hl := lv_entry ([.ref (a 0), .int x, .int d, .ref o]) (n := 5) (Nat.le_of_ble_eq_true rfl)
  rw [lg_entry_eq]
  generalize (lg_sl ([.ref (a 0), .int x, .int d, .ref o]) ++ List.replicate (5 - (lg_sl ([.ref (a 0), .int x, .int d, .ref o])).length) Slot.unset).toArray = ls at hl ⊢
  have hl : lv_has ls 5 [(0, .ref (a 0)), (1, .int x), (2, .int d), (3, .ref o)] := hl
  have hTab : c.exceptionTable.toList = tableOf [(0, 10, 13, 13)] := vx_table (x := yL_value) B (hts (.codeWith yL_value cL_value 5 (some .int) [(0, 10, 13, 13)]) (by decide +kernel))
  refine lv_aload_n hx hb dL_value_0 rfl (lv_at hl 3 rfl) ?_
  refine lv_iconst (v := 0) hx hb dL_value_1 (by decide) ?_
  refine lv_aload_n hx hb dL_value_2 rfl (lv_at hl 0 rfl) ?_
  refine lv_iload_n hx hb dL_value_3 rfl (lv_at hl 1 rfl) ?_
  refine lv_iload_n hx hb dL_value_4 rfl (lv_at hl 2 rfl) ?_
  refine vx_calli (A0 := fun q => s.heap.size ≤ q) (H0 := s.heap) (vx_runV (As := [.int x, .int d]) (rest := [.int 0, .ref o]) ⟨hx, hb, hml, hown, hts⟩ (tX0_value l hl9 dC dI cI cZ cA a s.heap.size sa n am rf mk wv lo cf tf T mt im x d hB) (cwV 2 hts gL_value_X0_value rfl rfl rfl (by decide +kernel) ⟨Nat.le_of_ble_eq_true rfl, Nat.le_of_ble_eq_true rfl⟩) ⟨blindTP, va_recv hKg (pL hP) (ci := 0) (q0 := 0) rfl rfl, preTP (pL hP) hKg hE⟩ rfl rfl hl.1 rfl (lv_room (Nat.le_of_ble_eq_true rfl)) dL_value_5 ⟨Nat.le_of_ble_eq_true rfl, Nat.le_of_ble_eq_true rfl⟩) va_S.rf (fun q _ h => h) (fun q h => h) (fun q _ h => h) (fun E ce q9 u t H1 locs ht hvm hpx hBX hz hk hS hce hcv hcl => ?_) (fun r_ u t H1 locs ht hvm hw hB hz hk hS => hw.elim)
  have hEe : E = "java/lang/IllegalArgumentException" := hBX
  subst hEe
  refine vx_catch (name := "java/lang/IllegalArgumentException") hown [] { startPc := 0, endPc := 10, handlerPc := 13, catchType := 13 } [] (by rw [hTab]; rfl) (fun z hz => nomatch hz) (by decide) (by decide) (hts (.classLink RL 13 "java/lang/IllegalArgumentException") (by decide +kernel)) (va_Nw.use rfl hE.2.1.1) hce hcv hcl ?_
  refine W.eq (g2 := F0 m 13 ls [.ref q9]) rfl ?_
  refine lv_astore (lv' := [(4, .ref q9), (0, .ref (a 0)), (1, .int x), (2, .int d), (3, .ref o)]) hx hb dL_value_13 hl (by decide) rfl (fun ls hl => ?_)
  refine lv_iconst (v := 1) hx hb dL_value_15 (by decide) ?_
  exact W.iret (v := 1) hx hb hr (fun t ht hW => ⟨⟨1, (), rfl, rfl, trivial⟩, hS.F ht⟩) hS.2.2 dL_value_16
set_option maxHeartbeats 4000000 in
set_option maxRecDepth 100000 in
theorem nL_best (l : Launch) (hl9 : l.stackTraces = false) (dC : Nat → ClassId) (dI : Nat → Nat → Nat) (cI cZ cA cJ : ClassId) (a : Nat → Nat) (o : Nat) (fo : Nat → Int64) (sz : Nat) (sa : Nat → Nat) (n : Nat) (am : Nat) (rf : Nat) (mk : Nat) (wv : Nat → Int32) (lo : Nat → Int32) (cf : Nat → Nat) (tf : Nat → Nat) (T : Nat → Nat → Int32) (mt : Nat → Nat) (im : Nat → Int32) (x d : Int32) (hB : Bad n x d) : Met l yL_best wsL_best ({ frames := 8, cells := 1, slots := 6, locals := 134 }) (va_Pc [.ref (a 0), .int x, .int d, .ref o] (TP dC dI (GJ cI cZ cA cJ) (XW cI cZ cA a n am rf mk wv lo cf tf T mt im ++ OW o cJ fo) sz sa)) (va_Qi (fun r (_ : Unit) => r = 1) (fun _ _ => True) (fun q => sz ≤ q)) 1 6 (fun q => sz ≤ q) := by
  refine va_MetW (cc := cL_best) (maxL := 5) (ret := (some .int)) (hh := [(0, 10, 13, 13)]) (by decide) rfl ?_
  intro p e s m args below meth c s₁ B hml hv
  obtain ⟨rfl, hsz, ⟨hP, hK⟩, hE⟩ := hv
  have hx := B.exec
  have hb := B.bytes
  have hr := B.returns
  have hts := atoms_spec (ws := wsL_best) B.pre
  have hown : s.vm.findClass RL = some m.cls := findClass_of_methodNamed B.named
  have hlocks := B.notSynchronized
  subst hsz
  have hKg := hK.sub (tys' := GT cI cZ cA) [0, 1, 2] rfl
  have hl := lv_entry ([.ref (a 0), .int x, .int d, .ref o]) (n := 5) (Nat.le_of_ble_eq_true rfl)
  rw [lg_entry_eq]
  generalize (lg_sl ([.ref (a 0), .int x, .int d, .ref o]) ++ List.replicate (5 - (lg_sl ([.ref (a 0), .int x, .int d, .ref o])).length) Slot.unset).toArray = ls at hl ⊢
  have hl : lv_has ls 5 [(0, .ref (a 0)), (1, .int x), (2, .int d), (3, .ref o)] := hl
  have hTab : c.exceptionTable.toList = tableOf [(0, 10, 13, 13)] := vx_table (x := yL_best) B (hts (.codeWith yL_best cL_best 5 (some .int) [(0, 10, 13, 13)]) (by decide +kernel))
  refine lv_aload_n hx hb dL_best_0 rfl (lv_at hl 3 rfl) ?_
  refine lv_iconst (v := 0) hx hb dL_best_1 (by decide) ?_
  refine lv_aload_n hx hb dL_best_2 rfl (lv_at hl 0 rfl) ?_
  refine lv_iload_n hx hb dL_best_3 rfl (lv_at hl 1 rfl) ?_
  refine lv_iload_n hx hb dL_best_4 rfl (lv_at hl 2 rfl) ?_
  refine vx_calli (A0 := fun q => s.heap.size ≤ q) (H0 := s.heap) (vx_runV (As := [.int x, .int d]) (rest := [.int 0, .ref o]) ⟨hx, hb, hml, hown, hts⟩ (tX0_best l hl9 dC dI cI cZ cA a s.heap.size sa n am rf mk wv lo cf tf T mt im x d hB) (cwV 2 hts gL_best_X0_best rfl rfl rfl (by decide +kernel) ⟨Nat.le_of_ble_eq_true rfl, Nat.le_of_ble_eq_true rfl⟩) ⟨blindTP, va_recv hKg (pL hP) (ci := 0) (q0 := 0) rfl rfl, preTP (pL hP) hKg hE⟩ rfl rfl hl.1 rfl (lv_room (Nat.le_of_ble_eq_true rfl)) dL_best_5 ⟨Nat.le_of_ble_eq_true rfl, Nat.le_of_ble_eq_true rfl⟩) va_S.rf (fun q _ h => h) (fun q h => h) (fun q _ h => h) (fun E ce q9 u t H1 locs ht hvm hpx hBX hz hk hS hce hcv hcl => ?_) (fun r_ u t H1 locs ht hvm hw hB hz hk hS => hw.elim)
  have hEe : E = "java/lang/IllegalArgumentException" := hBX
  subst hEe
  refine vx_catch (name := "java/lang/IllegalArgumentException") hown [] { startPc := 0, endPc := 10, handlerPc := 13, catchType := 13 } [] (by rw [hTab]; rfl) (fun z hz => nomatch hz) (by decide) (by decide) (hts (.classLink RL 13 "java/lang/IllegalArgumentException") (by decide +kernel)) (va_Nw.use rfl hE.2.1.1) hce hcv hcl ?_
  refine W.eq (g2 := F0 m 13 ls [.ref q9]) rfl ?_
  refine lv_astore (lv' := [(4, .ref q9), (0, .ref (a 0)), (1, .int x), (2, .int d), (3, .ref o)]) hx hb dL_best_13 hl (by decide) rfl (fun ls hl => ?_)
  refine lv_iconst (v := 1) hx hb dL_best_15 (by decide) ?_
  exact W.iret (v := 1) hx hb hr (fun t ht hW => ⟨⟨1, (), rfl, rfl, trivial⟩, hS.F ht⟩) hS.2.2 dL_best_16
set_option maxHeartbeats 4000000 in
set_option maxRecDepth 100000 in
theorem nL_ties (l : Launch) (hl9 : l.stackTraces = false) (dC : Nat → ClassId) (dI : Nat → Nat → Nat) (cI cZ cA cJ : ClassId) (a : Nat → Nat) (o : Nat) (fo : Nat → Int64) (sz : Nat) (sa : Nat → Nat) (n : Nat) (am : Nat) (rf : Nat) (mk : Nat) (wv : Nat → Int32) (lo : Nat → Int32) (cf : Nat → Nat) (tf : Nat → Nat) (T : Nat → Nat → Int32) (mt : Nat → Nat) (im : Nat → Int32) (x d : Int32) (hB : Bad n x d) : Met l yL_ties wsL_ties ({ frames := 8, cells := 1, slots := 6, locals := 136 }) (va_Pc [.ref (a 0), .int x, .int d, .ref o] (TP dC dI (GJ cI cZ cA cJ) (XW cI cZ cA a n am rf mk wv lo cf tf T mt im ++ OW o cJ fo) sz sa)) (va_Qi (fun r (_ : Unit) => r = 1) (fun _ _ => True) (fun q => sz ≤ q)) 1 6 (fun q => sz ≤ q) := by
  refine va_MetW (cc := cL_ties) (maxL := 5) (ret := (some .int)) (hh := [(0, 10, 13, 13)]) (by decide) rfl ?_
  intro p e s m args below meth c s₁ B hml hv
  obtain ⟨rfl, hsz, ⟨hP, hK⟩, hE⟩ := hv
  have hx := B.exec
  have hb := B.bytes
  have hr := B.returns
  have hts := atoms_spec (ws := wsL_ties) B.pre
  have hown : s.vm.findClass RL = some m.cls := findClass_of_methodNamed B.named
  have hlocks := B.notSynchronized
  subst hsz
  have hKg := hK.sub (tys' := GT cI cZ cA) [0, 1, 2] rfl
  have hl := lv_entry ([.ref (a 0), .int x, .int d, .ref o]) (n := 5) (Nat.le_of_ble_eq_true rfl)
  rw [lg_entry_eq]
  generalize (lg_sl ([.ref (a 0), .int x, .int d, .ref o]) ++ List.replicate (5 - (lg_sl ([.ref (a 0), .int x, .int d, .ref o])).length) Slot.unset).toArray = ls at hl ⊢
  have hl : lv_has ls 5 [(0, .ref (a 0)), (1, .int x), (2, .int d), (3, .ref o)] := hl
  have hTab : c.exceptionTable.toList = tableOf [(0, 10, 13, 13)] := vx_table (x := yL_ties) B (hts (.codeWith yL_ties cL_ties 5 (some .int) [(0, 10, 13, 13)]) (by decide +kernel))
  refine lv_aload_n hx hb dL_ties_0 rfl (lv_at hl 3 rfl) ?_
  refine lv_iconst (v := 0) hx hb dL_ties_1 (by decide) ?_
  refine lv_aload_n hx hb dL_ties_2 rfl (lv_at hl 0 rfl) ?_
  refine lv_iload_n hx hb dL_ties_3 rfl (lv_at hl 1 rfl) ?_
  refine lv_iload_n hx hb dL_ties_4 rfl (lv_at hl 2 rfl) ?_
  refine vx_calli (A0 := fun q => s.heap.size ≤ q) (H0 := s.heap) (vx_runV (As := [.int x, .int d]) (rest := [.int 0, .ref o]) ⟨hx, hb, hml, hown, hts⟩ (tX0_ties l hl9 dC dI cI cZ cA a s.heap.size sa n am rf mk wv lo cf tf T mt im x d hB) (cwV 2 hts gL_ties_X0_ties rfl rfl rfl (by decide +kernel) ⟨Nat.le_of_ble_eq_true rfl, Nat.le_of_ble_eq_true rfl⟩) ⟨blindTP, va_recv hKg (pL hP) (ci := 0) (q0 := 0) rfl rfl, preTP (pL hP) hKg hE⟩ rfl rfl hl.1 rfl (lv_room (Nat.le_of_ble_eq_true rfl)) dL_ties_5 ⟨Nat.le_of_ble_eq_true rfl, Nat.le_of_ble_eq_true rfl⟩) va_S.rf (fun q _ h => h) (fun q h => h) (fun q _ h => h) (fun E ce q9 u t H1 locs ht hvm hpx hBX hz hk hS hce hcv hcl => ?_) (fun r_ u t H1 locs ht hvm hw hB hz hk hS => hw.elim)
  have hEe : E = "java/lang/IllegalArgumentException" := hBX
  subst hEe
  refine vx_catch (name := "java/lang/IllegalArgumentException") hown [] { startPc := 0, endPc := 10, handlerPc := 13, catchType := 13 } [] (by rw [hTab]; rfl) (fun z hz => nomatch hz) (by decide) (by decide) (hts (.classLink RL 13 "java/lang/IllegalArgumentException") (by decide +kernel)) (va_Nw.use rfl hE.2.1.1) hce hcv hcl ?_
  refine W.eq (g2 := F0 m 13 ls [.ref q9]) rfl ?_
  refine lv_astore (lv' := [(4, .ref q9), (0, .ref (a 0)), (1, .int x), (2, .int d), (3, .ref o)]) hx hb dL_ties_13 hl (by decide) rfl (fun ls hl => ?_)
  refine lv_iconst (v := 1) hx hb dL_ties_15 (by decide) ?_
  exact W.iret (v := 1) hx hb hr (fun t ht hW => ⟨⟨1, (), rfl, rfl, trivial⟩, hS.F ht⟩) hS.2.2 dL_ties_16
set_option maxHeartbeats 4000000 in
set_option maxRecDepth 100000 in
theorem nL_settled (l : Launch) (hl9 : l.stackTraces = false) (dC : Nat → ClassId) (dI : Nat → Nat → Nat) (cI cZ cA cJ : ClassId) (a : Nat → Nat) (o : Nat) (fo : Nat → Int64) (sz : Nat) (sa : Nat → Nat) (n : Nat) (am : Nat) (rf : Nat) (mk : Nat) (wv : Nat → Int32) (lo : Nat → Int32) (cf : Nat → Nat) (tf : Nat → Nat) (T : Nat → Nat → Int32) (mt : Nat → Nat) (im : Nat → Int32) (x d : Int32) (hB : Bad n x d) : Met l yL_settled wsL_settled ({ frames := 8, cells := 1, slots := 6, locals := 135 }) (va_Pc [.ref (a 0), .int x, .int d, .ref o] (TP dC dI (GJ cI cZ cA cJ) (XW cI cZ cA a n am rf mk wv lo cf tf T mt im ++ OW o cJ fo) sz sa)) (va_Qi (fun r (_ : Unit) => r = 1) (fun _ _ => True) (fun q => sz ≤ q)) 1 6 (fun q => sz ≤ q) := by
  refine va_MetW (cc := cL_settled) (maxL := 5) (ret := (some .int)) (hh := [(0, 10, 13, 13)]) (by decide) rfl ?_
  intro p e s m args below meth c s₁ B hml hv
  obtain ⟨rfl, hsz, ⟨hP, hK⟩, hE⟩ := hv
  have hx := B.exec
  have hb := B.bytes
  have hr := B.returns
  have hts := atoms_spec (ws := wsL_settled) B.pre
  have hown : s.vm.findClass RL = some m.cls := findClass_of_methodNamed B.named
  have hlocks := B.notSynchronized
  subst hsz
  have hKg := hK.sub (tys' := GT cI cZ cA) [0, 1, 2] rfl
  have hl := lv_entry ([.ref (a 0), .int x, .int d, .ref o]) (n := 5) (Nat.le_of_ble_eq_true rfl)
  rw [lg_entry_eq]
  generalize (lg_sl ([.ref (a 0), .int x, .int d, .ref o]) ++ List.replicate (5 - (lg_sl ([.ref (a 0), .int x, .int d, .ref o])).length) Slot.unset).toArray = ls at hl ⊢
  have hl : lv_has ls 5 [(0, .ref (a 0)), (1, .int x), (2, .int d), (3, .ref o)] := hl
  have hTab : c.exceptionTable.toList = tableOf [(0, 10, 13, 13)] := vx_table (x := yL_settled) B (hts (.codeWith yL_settled cL_settled 5 (some .int) [(0, 10, 13, 13)]) (by decide +kernel))
  refine lv_aload_n hx hb dL_settled_0 rfl (lv_at hl 3 rfl) ?_
  refine lv_iconst (v := 0) hx hb dL_settled_1 (by decide) ?_
  refine lv_aload_n hx hb dL_settled_2 rfl (lv_at hl 0 rfl) ?_
  refine lv_iload_n hx hb dL_settled_3 rfl (lv_at hl 1 rfl) ?_
  refine lv_iload_n hx hb dL_settled_4 rfl (lv_at hl 2 rfl) ?_
  refine vx_calli (A0 := fun q => s.heap.size ≤ q) (H0 := s.heap) (vx_runV (As := [.int x, .int d]) (rest := [.int 0, .ref o]) ⟨hx, hb, hml, hown, hts⟩ (tX0_settled l hl9 dC dI cI cZ cA a s.heap.size sa n am rf mk wv lo cf tf T mt im x d hB) (cwV 2 hts gL_settled_X0_settled rfl rfl rfl (by decide +kernel) ⟨Nat.le_of_ble_eq_true rfl, Nat.le_of_ble_eq_true rfl⟩) ⟨blindTP, va_recv hKg (pL hP) (ci := 0) (q0 := 0) rfl rfl, preTP (pL hP) hKg hE⟩ rfl rfl hl.1 rfl (lv_room (Nat.le_of_ble_eq_true rfl)) dL_settled_5 ⟨Nat.le_of_ble_eq_true rfl, Nat.le_of_ble_eq_true rfl⟩) va_S.rf (fun q _ h => h) (fun q h => h) (fun q _ h => h) (fun E ce q9 u t H1 locs ht hvm hpx hBX hz hk hS hce hcv hcl => ?_) (fun r_ u t H1 locs ht hvm hw hB hz hk hS => hw.elim)
  have hEe : E = "java/lang/IllegalArgumentException" := hBX
  subst hEe
  refine vx_catch (name := "java/lang/IllegalArgumentException") hown [] { startPc := 0, endPc := 10, handlerPc := 13, catchType := 13 } [] (by rw [hTab]; rfl) (fun z hz => nomatch hz) (by decide) (by decide) (hts (.classLink RL 13 "java/lang/IllegalArgumentException") (by decide +kernel)) (va_Nw.use rfl hE.2.1.1) hce hcv hcl ?_
  refine W.eq (g2 := F0 m 13 ls [.ref q9]) rfl ?_
  refine lv_astore (lv' := [(4, .ref q9), (0, .ref (a 0)), (1, .int x), (2, .int d), (3, .ref o)]) hx hb dL_settled_13 hl (by decide) rfl (fun ls hl => ?_)
  refine lv_iconst (v := 1) hx hb dL_settled_15 (by decide) ?_
  exact W.iret (v := 1) hx hb hr (fun t ht hW => ⟨⟨1, (), rfl, rfl, trivial⟩, hS.F ht⟩) hS.2.2 dL_settled_16
set_option maxHeartbeats 4000000 in
set_option maxRecDepth 100000 in
theorem nL_around (l : Launch) (hl9 : l.stackTraces = false) (dC : Nat → ClassId) (dI : Nat → Nat → Nat) (cI cZ cA cJ : ClassId) (a : Nat → Nat) (o : Nat) (fo : Nat → Int64) (sz : Nat) (sa : Nat → Nat) (n : Nat) (am : Nat) (rf : Nat) (mk : Nat) (wv : Nat → Int32) (lo : Nat → Int32) (cf : Nat → Nat) (tf : Nat → Nat) (T : Nat → Nat → Int32) (mt : Nat → Nat) (im : Nat → Int32) (x d : Int32) (hB : Bad n x d) : Met l yL_around wsL_around ({ frames := 8, cells := 1, slots := 6, locals := 129 }) (va_Pc [.ref (a 0), .int x, .int d, .ref o] (TP dC dI (GJ cI cZ cA cJ) (XW cI cZ cA a n am rf mk wv lo cf tf T mt im ++ OW o cJ fo) sz sa)) (va_Qi (fun r (_ : Unit) => r = 1) (fun _ _ => True) (fun q => sz ≤ q)) 1 6 (fun q => sz ≤ q) := by
  refine va_MetW (cc := cL_around) (maxL := 5) (ret := (some .int)) (hh := [(0, 10, 13, 13)]) (by decide) rfl ?_
  intro p e s m args below meth c s₁ B hml hv
  obtain ⟨rfl, hsz, ⟨hP, hK⟩, hE⟩ := hv
  have hx := B.exec
  have hb := B.bytes
  have hr := B.returns
  have hts := atoms_spec (ws := wsL_around) B.pre
  have hown : s.vm.findClass RL = some m.cls := findClass_of_methodNamed B.named
  have hlocks := B.notSynchronized
  subst hsz
  have hKg := hK.sub (tys' := GT cI cZ cA) [0, 1, 2] rfl
  have hl := lv_entry ([.ref (a 0), .int x, .int d, .ref o]) (n := 5) (Nat.le_of_ble_eq_true rfl)
  rw [lg_entry_eq]
  generalize (lg_sl ([.ref (a 0), .int x, .int d, .ref o]) ++ List.replicate (5 - (lg_sl ([.ref (a 0), .int x, .int d, .ref o])).length) Slot.unset).toArray = ls at hl ⊢
  have hl : lv_has ls 5 [(0, .ref (a 0)), (1, .int x), (2, .int d), (3, .ref o)] := hl
  have hTab : c.exceptionTable.toList = tableOf [(0, 10, 13, 13)] := vx_table (x := yL_around) B (hts (.codeWith yL_around cL_around 5 (some .int) [(0, 10, 13, 13)]) (by decide +kernel))
  refine lv_aload_n hx hb dL_around_0 rfl (lv_at hl 3 rfl) ?_
  refine lv_iconst (v := 0) hx hb dL_around_1 (by decide) ?_
  refine lv_aload_n hx hb dL_around_2 rfl (lv_at hl 0 rfl) ?_
  refine lv_iload_n hx hb dL_around_3 rfl (lv_at hl 1 rfl) ?_
  refine lv_iload_n hx hb dL_around_4 rfl (lv_at hl 2 rfl) ?_
  refine vx_calli (A0 := fun q => s.heap.size ≤ q) (H0 := s.heap) (vx_runV (As := [.int x, .int d]) (rest := [.int 0, .ref o]) ⟨hx, hb, hml, hown, hts⟩ (tX0_around l hl9 dC dI cI cZ cA a s.heap.size sa n am rf mk wv lo cf tf T mt im x d hB) (cwV 2 hts gL_around_X0_around rfl rfl rfl (by decide +kernel) ⟨Nat.le_of_ble_eq_true rfl, Nat.le_of_ble_eq_true rfl⟩) ⟨blindTP, va_recv hKg (pL hP) (ci := 0) (q0 := 0) rfl rfl, preTP (pL hP) hKg hE⟩ rfl rfl hl.1 rfl (lv_room (Nat.le_of_ble_eq_true rfl)) dL_around_5 ⟨Nat.le_of_ble_eq_true rfl, Nat.le_of_ble_eq_true rfl⟩) va_S.rf (fun q _ h => h) (fun q h => h) (fun q _ h => h) (fun E ce q9 u t H1 locs ht hvm hpx hBX hz hk hS hce hcv hcl => ?_) (fun r_ u t H1 locs ht hvm hw hB hz hk hS => hw.elim)
  have hEe : E = "java/lang/IllegalArgumentException" := hBX
  subst hEe
  refine vx_catch (name := "java/lang/IllegalArgumentException") hown [] { startPc := 0, endPc := 10, handlerPc := 13, catchType := 13 } [] (by rw [hTab]; rfl) (fun z hz => nomatch hz) (by decide) (by decide) (hts (.classLink RL 13 "java/lang/IllegalArgumentException") (by decide +kernel)) (va_Nw.use rfl hE.2.1.1) hce hcv hcl ?_
  refine W.eq (g2 := F0 m 13 ls [.ref q9]) rfl ?_
  refine lv_astore (lv' := [(4, .ref q9), (0, .ref (a 0)), (1, .int x), (2, .int d), (3, .ref o)]) hx hb dL_around_13 hl (by decide) rfl (fun ls hl => ?_)
  refine lv_iconst (v := 1) hx hb dL_around_15 (by decide) ?_
  exact W.iret (v := 1) hx hb hr (fun t ht hW => ⟨⟨1, (), rfl, rfl, trivial⟩, hS.F ht⟩) hS.2.2 dL_around_16
set_option maxHeartbeats 4000000 in
set_option maxRecDepth 100000 in
theorem nL_reaches (l : Launch) (hl9 : l.stackTraces = false) (dC : Nat → ClassId) (dI : Nat → Nat → Nat) (cI cZ cA cJ : ClassId) (a : Nat → Nat) (o : Nat) (fo : Nat → Int64) (sz : Nat) (sa : Nat → Nat) (n : Nat) (am : Nat) (rf : Nat) (mk : Nat) (wv : Nat → Int32) (lo : Nat → Int32) (cf : Nat → Nat) (tf : Nat → Nat) (T : Nat → Nat → Int32) (mt : Nat → Nat) (im : Nat → Int32) (x d v : Int32) (hB : Bad n x d) : Met l yL_reaches wsL_reaches ({ frames := 8, cells := 1, slots := 6, locals := 135 }) (va_Pc [.ref (a 0), .int x, .int d, .int v, .ref o] (TP dC dI (GJ cI cZ cA cJ) (XW cI cZ cA a n am rf mk wv lo cf tf T mt im ++ OW o cJ fo) sz sa)) (va_Qi (fun r (_ : Unit) => r = 1) (fun _ _ => True) (fun q => sz ≤ q)) 1 6 (fun q => sz ≤ q) := by
  refine va_MetW (cc := cL_reaches) (maxL := 6) (ret := (some .int)) (hh := [(0, 19, 22, 13)]) (by decide) rfl ?_
  intro p e s m args below meth c s₁ B hml hv
  obtain ⟨rfl, hsz, ⟨hP, hK⟩, hE⟩ := hv
  have hx := B.exec
  have hb := B.bytes
  have hr := B.returns
  have hts := atoms_spec (ws := wsL_reaches) B.pre
  have hown : s.vm.findClass RL = some m.cls := findClass_of_methodNamed B.named
  have hlocks := B.notSynchronized
  subst hsz
  have hKg := hK.sub (tys' := GT cI cZ cA) [0, 1, 2] rfl
  have hl := lv_entry ([.ref (a 0), .int x, .int d, .int v, .ref o]) (n := 6) (Nat.le_of_ble_eq_true rfl)
  rw [lg_entry_eq]
  generalize (lg_sl ([.ref (a 0), .int x, .int d, .int v, .ref o]) ++ List.replicate (6 - (lg_sl ([.ref (a 0), .int x, .int d, .int v, .ref o])).length) Slot.unset).toArray = ls at hl ⊢
  have hl : lv_has ls 6 [(0, .ref (a 0)), (1, .int x), (2, .int d), (3, .int v), (4, .ref o)] := hl
  have hTab : c.exceptionTable.toList = tableOf [(0, 19, 22, 13)] := vx_table (x := yL_reaches) B (hts (.codeWith yL_reaches cL_reaches 6 (some .int) [(0, 19, 22, 13)]) (by decide +kernel))
  refine lv_aload hx hb dL_reaches_0 (lv_at hl 4 rfl) ?_
  refine lv_iconst (v := 0) hx hb dL_reaches_2 (by decide) ?_
  refine lv_aload_n hx hb dL_reaches_3 rfl (lv_at hl 0 rfl) ?_
  refine lv_iload_n hx hb dL_reaches_4 rfl (lv_at hl 1 rfl) ?_
  refine lv_iload_n hx hb dL_reaches_5 rfl (lv_at hl 2 rfl) ?_
  refine lv_iload_n hx hb dL_reaches_6 rfl (lv_at hl 3 rfl) ?_
  refine vx_calli (A0 := fun q => s.heap.size ≤ q) (H0 := s.heap) (vx_runV (As := [.int x, .int d, .int v]) (rest := [.int 0, .ref o]) ⟨hx, hb, hml, hown, hts⟩ (tX0_reaches l hl9 dC dI cI cZ cA a s.heap.size sa n am rf mk wv lo cf tf T mt im x d v hB) (cwV 3 hts gL_reaches_X0_reaches rfl rfl rfl (by decide +kernel) ⟨Nat.le_of_ble_eq_true rfl, Nat.le_of_ble_eq_true rfl⟩) ⟨blindTP, va_recv hKg (pL hP) (ci := 0) (q0 := 0) rfl rfl, preTP (pL hP) hKg hE⟩ rfl rfl hl.1 rfl (lv_room (Nat.le_of_ble_eq_true rfl)) dL_reaches_7 ⟨Nat.le_of_ble_eq_true rfl, Nat.le_of_ble_eq_true rfl⟩) va_S.rf (fun q _ h => h) (fun q h => h) (fun q _ h => h) (fun E ce q9 u t H1 locs ht hvm hpx hBX hz hk hS hce hcv hcl => ?_) (fun r_ u t H1 locs ht hvm hw hB hz hk hS => hw.elim)
  have hEe : E = "java/lang/IllegalArgumentException" := hBX
  subst hEe
  refine vx_catch (name := "java/lang/IllegalArgumentException") hown [] { startPc := 0, endPc := 19, handlerPc := 22, catchType := 13 } [] (by rw [hTab]; rfl) (fun z hz => nomatch hz) (by decide) (by decide) (hts (.classLink RL 13 "java/lang/IllegalArgumentException") (by decide +kernel)) (va_Nw.use rfl hE.2.1.1) hce hcv hcl ?_
  refine W.eq (g2 := F0 m 22 ls [.ref q9]) rfl ?_
  refine lv_astore (lv' := [(5, .ref q9), (0, .ref (a 0)), (1, .int x), (2, .int d), (3, .int v), (4, .ref o)]) hx hb dL_reaches_22 hl (by decide) rfl (fun ls hl => ?_)
  refine lv_iconst (v := 1) hx hb dL_reaches_24 (by decide) ?_
  exact W.iret (v := 1) hx hb hr (fun t ht hW => ⟨⟨1, (), rfl, rfl, trivial⟩, hS.F ht⟩) hS.2.2 dL_reaches_25
set_option maxHeartbeats 4000000 in
set_option maxRecDepth 100000 in
theorem nL_line (l : Launch) (hl9 : l.stackTraces = false) (dC : Nat → ClassId) (dI : Nat → Nat → Nat) (cI cZ cA cJ : ClassId) (a : Nat → Nat) (o : Nat) (fo : Nat → Int64) (sz : Nat) (sa : Nat → Nat) (n : Nat) (am : Nat) (rf : Nat) (mk : Nat) (wv : Nat → Int32) (lo : Nat → Int32) (cf : Nat → Nat) (tf : Nat → Nat) (T : Nat → Nat → Int32) (mt : Nat → Nat) (im : Nat → Int32) (x d v : Int32) (hB : Bad n x d) : Met l yL_line wsL_line ({ frames := 8, cells := 1, slots := 6, locals := 138 }) (va_Pc [.ref (a 0), .int x, .int d, .int v, .ref o] (TP dC dI (GJ cI cZ cA cJ) (XW cI cZ cA a n am rf mk wv lo cf tf T mt im ++ OW o cJ fo) sz sa)) (va_Qi (fun r (_ : Unit) => r = 1) (fun _ _ => True) (fun q => sz ≤ q)) 1 6 (fun q => sz ≤ q) := by
  refine va_MetW (cc := cL_line) (maxL := 6) (ret := (some .int)) (hh := [(0, 12, 15, 13)]) (by decide) rfl ?_
  intro p e s m args below meth c s₁ B hml hv
  obtain ⟨rfl, hsz, ⟨hP, hK⟩, hE⟩ := hv
  have hx := B.exec
  have hb := B.bytes
  have hr := B.returns
  have hts := atoms_spec (ws := wsL_line) B.pre
  have hown : s.vm.findClass RL = some m.cls := findClass_of_methodNamed B.named
  have hlocks := B.notSynchronized
  subst hsz
  have hKg := hK.sub (tys' := GT cI cZ cA) [0, 1, 2] rfl
  have hl := lv_entry ([.ref (a 0), .int x, .int d, .int v, .ref o]) (n := 6) (Nat.le_of_ble_eq_true rfl)
  rw [lg_entry_eq]
  generalize (lg_sl ([.ref (a 0), .int x, .int d, .int v, .ref o]) ++ List.replicate (6 - (lg_sl ([.ref (a 0), .int x, .int d, .int v, .ref o])).length) Slot.unset).toArray = ls at hl ⊢
  have hl : lv_has ls 6 [(0, .ref (a 0)), (1, .int x), (2, .int d), (3, .int v), (4, .ref o)] := hl
  have hTab : c.exceptionTable.toList = tableOf [(0, 12, 15, 13)] := vx_table (x := yL_line) B (hts (.codeWith yL_line cL_line 6 (some .int) [(0, 12, 15, 13)]) (by decide +kernel))
  refine lv_aload hx hb dL_line_0 (lv_at hl 4 rfl) ?_
  refine lv_iconst (v := 0) hx hb dL_line_2 (by decide) ?_
  refine lv_aload_n hx hb dL_line_3 rfl (lv_at hl 0 rfl) ?_
  refine lv_iload_n hx hb dL_line_4 rfl (lv_at hl 1 rfl) ?_
  refine lv_iload_n hx hb dL_line_5 rfl (lv_at hl 2 rfl) ?_
  refine lv_iload_n hx hb dL_line_6 rfl (lv_at hl 3 rfl) ?_
  refine vx_calli (A0 := fun q => s.heap.size ≤ q) (H0 := s.heap) (vx_runV (As := [.int x, .int d, .int v]) (rest := [.int 0, .ref o]) ⟨hx, hb, hml, hown, hts⟩ (tX0_line l hl9 dC dI cI cZ cA a s.heap.size sa n am rf mk wv lo cf tf T mt im x d v hB) (cwV 3 hts gL_line_X0_line rfl rfl rfl (by decide +kernel) ⟨Nat.le_of_ble_eq_true rfl, Nat.le_of_ble_eq_true rfl⟩) ⟨blindTP, va_recv hKg (pL hP) (ci := 0) (q0 := 0) rfl rfl, preTP (pL hP) hKg hE⟩ rfl rfl hl.1 rfl (lv_room (Nat.le_of_ble_eq_true rfl)) dL_line_7 ⟨Nat.le_of_ble_eq_true rfl, Nat.le_of_ble_eq_true rfl⟩) va_S.rf (fun q _ h => h) (fun q h => h) (fun q _ h => h) (fun E ce q9 u t H1 locs ht hvm hpx hBX hz hk hS hce hcv hcl => ?_) (fun r_ u t H1 locs ht hvm hw hB hz hk hS => hw.elim)
  have hEe : E = "java/lang/IllegalArgumentException" := hBX
  subst hEe
  refine vx_catch (name := "java/lang/IllegalArgumentException") hown [] { startPc := 0, endPc := 12, handlerPc := 15, catchType := 13 } [] (by rw [hTab]; rfl) (fun z hz => nomatch hz) (by decide) (by decide) (hts (.classLink RL 13 "java/lang/IllegalArgumentException") (by decide +kernel)) (va_Nw.use rfl hE.2.1.1) hce hcv hcl ?_
  refine W.eq (g2 := F0 m 15 ls [.ref q9]) rfl ?_
  refine lv_astore (lv' := [(5, .ref q9), (0, .ref (a 0)), (1, .int x), (2, .int d), (3, .int v), (4, .ref o)]) hx hb dL_line_15 hl (by decide) rfl (fun ls hl => ?_)
  refine lv_iconst (v := 1) hx hb dL_line_17 (by decide) ?_
  exact W.iret (v := 1) hx hb hr (fun t ht hW => ⟨⟨1, (), rfl, rfl, trivial⟩, hS.F ht⟩) hS.2.2 dL_line_18
set_option maxHeartbeats 4000000 in
set_option maxRecDepth 100000 in
theorem nL_node_w (l : Launch) (hl9 : l.stackTraces = false) (dC : Nat → ClassId) (dI : Nat → Nat → Nat) (cI cZ cA cJ : ClassId) (a : Nat → Nat) (o : Nat) (fo : Nat → Int64) (sz : Nat) (sa : Nat → Nat) (n : Nat) (am : Nat) (rf : Nat) (mk : Nat) (wv : Nat → Int32) (lo : Nat → Int32) (cf : Nat → Nat) (tf : Nat → Nat) (T : Nat → Nat → Int32) (mt : Nat → Nat) (im : Nat → Int32) (v b : Int32) (hv : iw v = 0) : Met l yL_node wsL_node ({ frames := 7, cells := 1, slots := 6, locals := 105 }) (va_Pc [.ref (a 0), .int v, .int b, .ref o] (TP dC dI (GJ cI cZ cA cJ) (XW cI cZ cA a n am rf mk wv lo cf tf T mt im ++ OW o cJ fo) sz sa)) (va_Qi (fun r (_ : Unit) => r = 1) (fun _ _ => True) (fun q => sz ≤ q)) 1 6 (fun q => sz ≤ q) := by
  refine va_MetW (cc := cL_node) (maxL := 5) (ret := (some .int)) (hh := [(0, 10, 13, 13), (0, 10, 17, 15)]) (by decide) rfl ?_
  intro p e s m args below meth c s₁ B hml hv
  obtain ⟨rfl, hsz, ⟨hP, hK⟩, hE⟩ := hv
  have hx := B.exec
  have hb := B.bytes
  have hr := B.returns
  have hts := atoms_spec (ws := wsL_node) B.pre
  have hown : s.vm.findClass RL = some m.cls := findClass_of_methodNamed B.named
  have hlocks := B.notSynchronized
  subst hsz
  have hKg := hK.sub (tys' := GT cI cZ cA) [0, 1, 2] rfl
  have hl := lv_entry ([.ref (a 0), .int v, .int b, .ref o]) (n := 5) (Nat.le_of_ble_eq_true rfl)
  rw [lg_entry_eq]
  generalize (lg_sl ([.ref (a 0), .int v, .int b, .ref o]) ++ List.replicate (5 - (lg_sl ([.ref (a 0), .int v, .int b, .ref o])).length) Slot.unset).toArray = ls at hl ⊢
  have hl : lv_has ls 5 [(0, .ref (a 0)), (1, .int v), (2, .int b), (3, .ref o)] := hl
  have hTab : c.exceptionTable.toList = tableOf [(0, 10, 13, 13), (0, 10, 17, 15)] := vx_table (x := yL_node) B (hts (.codeWith yL_node cL_node 5 (some .int) [(0, 10, 13, 13), (0, 10, 17, 15)]) (by decide +kernel))
  refine lv_aload_n hx hb dL_node_0 rfl (lv_at hl 3 rfl) ?_
  refine lv_iconst (v := 0) hx hb dL_node_1 (by decide) ?_
  refine lv_aload_n hx hb dL_node_2 rfl (lv_at hl 0 rfl) ?_
  refine lv_iload_n hx hb dL_node_3 rfl (lv_at hl 1 rfl) ?_
  refine lv_iload_n hx hb dL_node_4 rfl (lv_at hl 2 rfl) ?_
  refine vx_calli (A0 := fun q => s.heap.size ≤ q) (H0 := s.heap) (vx_runV (As := [.int v, .int b]) (rest := [.int 0, .ref o]) ⟨hx, hb, hml, hown, hts⟩ (tX0_node_w l hl9 dC dI cI cZ cA a s.heap.size sa n am rf mk wv lo cf tf T mt im v b hv) (cwV 2 hts gL_node_X0_node rfl rfl rfl (by decide +kernel) ⟨Nat.le_of_ble_eq_true rfl, Nat.le_of_ble_eq_true rfl⟩) ⟨blindTP, va_recv hKg (pL hP) (ci := 0) (q0 := 0) rfl rfl, preTP (pL hP) hKg hE⟩ rfl rfl hl.1 rfl (lv_room (Nat.le_of_ble_eq_true rfl)) dL_node_5 ⟨Nat.le_of_ble_eq_true rfl, Nat.le_of_ble_eq_true rfl⟩) va_S.rf (fun q _ h => h) (fun q h => h) (fun q _ h => h) (fun E ce q9 u t H1 locs ht hvm hpx hBX hz hk hS hce hcv hcl => ?_) (fun r_ u t H1 locs ht hvm hw hB hz hk hS => hw.elim)
  have hEe : E = "java/lang/IllegalArgumentException" := hBX
  subst hEe
  refine vx_catch (name := "java/lang/IllegalArgumentException") hown [] { startPc := 0, endPc := 10, handlerPc := 13, catchType := 13 } [{ startPc := 0, endPc := 10, handlerPc := 17, catchType := 15 }] (by rw [hTab]; rfl) (fun z hz => nomatch hz) (by decide) (by decide) (hts (.classLink RL 13 "java/lang/IllegalArgumentException") (by decide +kernel)) (va_Nw.use rfl hE.2.1.1) hce hcv hcl ?_
  refine W.eq (g2 := F0 m 13 ls [.ref q9]) rfl ?_
  refine lv_astore (lv' := [(4, .ref q9), (0, .ref (a 0)), (1, .int v), (2, .int b), (3, .ref o)]) hx hb dL_node_13 hl (by decide) rfl (fun ls hl => ?_)
  refine lv_iconst (v := 1) hx hb dL_node_15 (by decide) ?_
  exact W.iret (v := 1) hx hb hr (fun t ht hW => ⟨⟨1, (), rfl, rfl, trivial⟩, hS.F ht⟩) hS.2.2 dL_node_16
set_option maxHeartbeats 4000000 in
set_option maxRecDepth 100000 in
theorem nL_node_f (l : Launch) (hl9 : l.stackTraces = false) (dC : Nat → ClassId) (dI : Nat → Nat → Nat) (cI cZ cA cJ : ClassId) (a : Nat → Nat) (o : Nat) (fo : Nat → Int64) (sz : Nat) (sa : Nat → Nat) (n : Nat) (am : Nat) (rf : Nat) (mk : Nat) (wv : Nat → Int32) (lo : Nat → Int32) (cf : Nat → Nat) (tf : Nat → Nat) (T : Nat → Nat → Int32) (mt : Nat → Nat) (im : Nat → Int32) (v b : Int32) (hv : iw v = 1) (hn : n = 400) : Met l yL_node wsL_node ({ frames := 7, cells := 1, slots := 6, locals := 105 }) (va_Pc [.ref (a 0), .int v, .int b, .ref o] (TP dC dI (GJ cI cZ cA cJ) (XW cI cZ cA a n am rf mk wv lo cf tf T mt im ++ OW o cJ fo) sz sa)) (va_Qi (fun r (_ : Unit) => r = 2) (fun _ _ => True) (fun q => sz ≤ q)) 1 6 (fun q => sz ≤ q) := by
  refine va_MetW (cc := cL_node) (maxL := 5) (ret := (some .int)) (hh := [(0, 10, 13, 13), (0, 10, 17, 15)]) (by decide) rfl ?_
  intro p e s m args below meth c s₁ B hml hv
  obtain ⟨rfl, hsz, ⟨hP, hK⟩, hE⟩ := hv
  have hx := B.exec
  have hb := B.bytes
  have hr := B.returns
  have hts := atoms_spec (ws := wsL_node) B.pre
  have hown : s.vm.findClass RL = some m.cls := findClass_of_methodNamed B.named
  have hlocks := B.notSynchronized
  subst hsz
  have hKg := hK.sub (tys' := GT cI cZ cA) [0, 1, 2] rfl
  have hl := lv_entry ([.ref (a 0), .int v, .int b, .ref o]) (n := 5) (Nat.le_of_ble_eq_true rfl)
  rw [lg_entry_eq]
  generalize (lg_sl ([.ref (a 0), .int v, .int b, .ref o]) ++ List.replicate (5 - (lg_sl ([.ref (a 0), .int v, .int b, .ref o])).length) Slot.unset).toArray = ls at hl ⊢
  have hl : lv_has ls 5 [(0, .ref (a 0)), (1, .int v), (2, .int b), (3, .ref o)] := hl
  have hTab : c.exceptionTable.toList = tableOf [(0, 10, 13, 13), (0, 10, 17, 15)] := vx_table (x := yL_node) B (hts (.codeWith yL_node cL_node 5 (some .int) [(0, 10, 13, 13), (0, 10, 17, 15)]) (by decide +kernel))
  refine lv_aload_n hx hb dL_node_0 rfl (lv_at hl 3 rfl) ?_
  refine lv_iconst (v := 0) hx hb dL_node_1 (by decide) ?_
  refine lv_aload_n hx hb dL_node_2 rfl (lv_at hl 0 rfl) ?_
  refine lv_iload_n hx hb dL_node_3 rfl (lv_at hl 1 rfl) ?_
  refine lv_iload_n hx hb dL_node_4 rfl (lv_at hl 2 rfl) ?_
  refine vx_calli (A0 := fun q => s.heap.size ≤ q) (H0 := s.heap) (vx_runV (As := [.int v, .int b]) (rest := [.int 0, .ref o]) ⟨hx, hb, hml, hown, hts⟩ (tX0_node_f l hl9 dC dI cI cZ cA a s.heap.size sa n am rf mk wv lo cf tf T mt im v b hv hn) (cwV 2 hts gL_node_X0_node rfl rfl rfl (by decide +kernel) ⟨Nat.le_of_ble_eq_true rfl, Nat.le_of_ble_eq_true rfl⟩) ⟨blindTP, va_recv hKg (pL hP) (ci := 0) (q0 := 0) rfl rfl, preTP (pL hP) hKg hE⟩ rfl rfl hl.1 rfl (lv_room (Nat.le_of_ble_eq_true rfl)) dL_node_5 ⟨Nat.le_of_ble_eq_true rfl, Nat.le_of_ble_eq_true rfl⟩) va_S.rf (fun q _ h => h) (fun q h => h) (fun q _ h => h) (fun E ce q9 u t H1 locs ht hvm hpx hBX hz hk hS hce hcv hcl => ?_) (fun r_ u t H1 locs ht hvm hw hB hz hk hS => hw.elim)
  have hEe : E = "java/lang/IllegalStateException" := hBX
  subst hEe
  refine vx_catch (name := "java/lang/IllegalStateException") hown [{ startPc := 0, endPc := 10, handlerPc := 13, catchType := 13 }] { startPc := 0, endPc := 10, handlerPc := 17, catchType := 15 } [] (by rw [hTab]; rfl) (fun z hz => by rw [List.mem_singleton.mp hz]; exact Or.inr ⟨by decide, "java/lang/IllegalArgumentException", hts (.classLink RL 13 "java/lang/IllegalArgumentException") (by decide +kernel), hE.2.1.2.2⟩) (by decide) (by decide) (hts (.classLink RL 15 "java/lang/IllegalStateException") (by decide +kernel)) (va_Nw.use rfl hE.2.1.2.1) hce hcv hcl ?_
  refine W.eq (g2 := F0 m 17 ls [.ref q9]) rfl ?_
  refine lv_astore (lv' := [(4, .ref q9), (0, .ref (a 0)), (1, .int v), (2, .int b), (3, .ref o)]) hx hb dL_node_17 hl (by decide) rfl (fun ls hl => ?_)
  refine lv_iconst (v := 2) hx hb dL_node_19 (by decide) ?_
  exact W.iret (v := 2) hx hb hr (fun t ht hW => ⟨⟨2, (), rfl, rfl, trivial⟩, hS.F ht⟩) hS.2.2 dL_node_20
set_option maxHeartbeats 4000000 in
set_option maxRecDepth 100000 in
theorem nL_move_n (l : Launch) (hl9 : l.stackTraces = false) (dC : Nat → ClassId) (dI : Nat → Nat → Nat) (cI cZ cA cJ : ClassId) (a : Nat → Nat) (o : Nat) (fo : Nat → Int64) (sz : Nat) (sa : Nat → Nat) (n : Nat) (am : Nat) (rf : Nat) (mk : Nat) (wv : Nat → Int32) (lo : Nat → Int32) (cf : Nat → Nat) (tf : Nat → Nat) (T : Nat → Nat → Int32) (mt : Nat → Nat) (im : Nat → Int32) (x y : Int32) (hno : isn x n = 0 ∨ isn y n = 0) : Met l yL_move wsL_move ({ frames := 7, cells := 1, slots := 6, locals := 105 }) (va_Pc [.ref (a 0), .int x, .int y, .ref o] (TP dC dI (GJ cI cZ cA cJ) (XW cI cZ cA a n am rf mk wv lo cf tf T mt im ++ OW o cJ fo) sz sa)) (va_Qi (fun r (_ : Unit) => r = 1) (fun _ _ => True) (fun q => sz ≤ q)) 1 6 (fun q => sz ≤ q) := by
  refine va_MetW (cc := cL_move) (maxL := 5) (ret := (some .int)) (hh := [(0, 10, 13, 13), (0, 10, 17, 15)]) (by decide) rfl ?_
  intro p e s m args below meth c s₁ B hml hv
  obtain ⟨rfl, hsz, ⟨hP, hK⟩, hE⟩ := hv
  have hx := B.exec
  have hb := B.bytes
  have hr := B.returns
  have hts := atoms_spec (ws := wsL_move) B.pre
  have hown : s.vm.findClass RL = some m.cls := findClass_of_methodNamed B.named
  have hlocks := B.notSynchronized
  subst hsz
  have hKg := hK.sub (tys' := GT cI cZ cA) [0, 1, 2] rfl
  have hl := lv_entry ([.ref (a 0), .int x, .int y, .ref o]) (n := 5) (Nat.le_of_ble_eq_true rfl)
  rw [lg_entry_eq]
  generalize (lg_sl ([.ref (a 0), .int x, .int y, .ref o]) ++ List.replicate (5 - (lg_sl ([.ref (a 0), .int x, .int y, .ref o])).length) Slot.unset).toArray = ls at hl ⊢
  have hl : lv_has ls 5 [(0, .ref (a 0)), (1, .int x), (2, .int y), (3, .ref o)] := hl
  have hTab : c.exceptionTable.toList = tableOf [(0, 10, 13, 13), (0, 10, 17, 15)] := vx_table (x := yL_move) B (hts (.codeWith yL_move cL_move 5 (some .int) [(0, 10, 13, 13), (0, 10, 17, 15)]) (by decide +kernel))
  refine lv_aload_n hx hb dL_move_0 rfl (lv_at hl 3 rfl) ?_
  refine lv_iconst (v := 0) hx hb dL_move_1 (by decide) ?_
  refine lv_aload_n hx hb dL_move_2 rfl (lv_at hl 0 rfl) ?_
  refine lv_iload_n hx hb dL_move_3 rfl (lv_at hl 1 rfl) ?_
  refine lv_iload_n hx hb dL_move_4 rfl (lv_at hl 2 rfl) ?_
  refine vx_calli (A0 := fun q => s.heap.size ≤ q) (H0 := s.heap) (vx_runV (As := [.int x, .int y]) (rest := [.int 0, .ref o]) ⟨hx, hb, hml, hown, hts⟩ (tX0_move_n l hl9 dC dI cI cZ cA a s.heap.size sa n am rf mk wv lo cf tf T mt im x y hno) (cwV 2 hts gL_move_X0_move rfl rfl rfl (by decide +kernel) ⟨Nat.le_of_ble_eq_true rfl, Nat.le_of_ble_eq_true rfl⟩) ⟨blindTP, va_recv hKg (pL hP) (ci := 0) (q0 := 0) rfl rfl, preTP (pL hP) hKg hE⟩ rfl rfl hl.1 rfl (lv_room (Nat.le_of_ble_eq_true rfl)) dL_move_5 ⟨Nat.le_of_ble_eq_true rfl, Nat.le_of_ble_eq_true rfl⟩) va_S.rf (fun q _ h => h) (fun q h => h) (fun q _ h => h) (fun E ce q9 u t H1 locs ht hvm hpx hBX hz hk hS hce hcv hcl => ?_) (fun r_ u t H1 locs ht hvm hw hB hz hk hS => hw.elim)
  have hEe : E = "java/lang/IllegalArgumentException" := hBX
  subst hEe
  refine vx_catch (name := "java/lang/IllegalArgumentException") hown [] { startPc := 0, endPc := 10, handlerPc := 13, catchType := 13 } [{ startPc := 0, endPc := 10, handlerPc := 17, catchType := 15 }] (by rw [hTab]; rfl) (fun z hz => nomatch hz) (by decide) (by decide) (hts (.classLink RL 13 "java/lang/IllegalArgumentException") (by decide +kernel)) (va_Nw.use rfl hE.2.1.1) hce hcv hcl ?_
  refine W.eq (g2 := F0 m 13 ls [.ref q9]) rfl ?_
  refine lv_astore (lv' := [(4, .ref q9), (0, .ref (a 0)), (1, .int x), (2, .int y), (3, .ref o)]) hx hb dL_move_13 hl (by decide) rfl (fun ls hl => ?_)
  refine lv_iconst (v := 1) hx hb dL_move_15 (by decide) ?_
  exact W.iret (v := 1) hx hb hr (fun t ht hW => ⟨⟨1, (), rfl, rfl, trivial⟩, hS.F ht⟩) hS.2.2 dL_move_16
set_option maxHeartbeats 4000000 in
set_option maxRecDepth 100000 in
theorem nL_move_f (l : Launch) (hl9 : l.stackTraces = false) (dC : Nat → ClassId) (dI : Nat → Nat → Nat) (cI cZ cA cJ : ClassId) (a : Nat → Nat) (o : Nat) (fo : Nat → Int64) (sz : Nat) (sa : Nat → Nat) (n : Nat) (am : Nat) (rf : Nat) (mk : Nat) (wv : Nat → Int32) (lo : Nat → Int32) (cf : Nat → Nat) (tf : Nat → Nat) (T : Nat → Nat → Int32) (mt : Nat → Nat) (im : Nat → Int32) (i j : Nat) (hn4 : n ≤ 400) (hi : i < n) (hj : j < n) (hc : cf i = 6) : Met l yL_move wsL_move ({ frames := 7, cells := 1, slots := 6, locals := 105 }) (va_Pc [.ref (a 0), .int (nI i), .int (nI j), .ref o] (TP dC dI (GJ cI cZ cA cJ) (XW cI cZ cA a n am rf mk wv lo cf tf T mt im ++ OW o cJ fo) sz sa)) (va_Qi (fun r (_ : Unit) => r = 2) (fun _ _ => True) (fun q => sz ≤ q)) 1 6 (fun q => sz ≤ q) := by
  refine va_MetW (cc := cL_move) (maxL := 5) (ret := (some .int)) (hh := [(0, 10, 13, 13), (0, 10, 17, 15)]) (by decide) rfl ?_
  intro p e s m args below meth c s₁ B hml hv
  obtain ⟨rfl, hsz, ⟨hP, hK⟩, hE⟩ := hv
  have hx := B.exec
  have hb := B.bytes
  have hr := B.returns
  have hts := atoms_spec (ws := wsL_move) B.pre
  have hown : s.vm.findClass RL = some m.cls := findClass_of_methodNamed B.named
  have hlocks := B.notSynchronized
  subst hsz
  have hKg := hK.sub (tys' := GT cI cZ cA) [0, 1, 2] rfl
  have hl := lv_entry ([.ref (a 0), .int (nI i), .int (nI j), .ref o]) (n := 5) (Nat.le_of_ble_eq_true rfl)
  rw [lg_entry_eq]
  generalize (lg_sl ([.ref (a 0), .int (nI i), .int (nI j), .ref o]) ++ List.replicate (5 - (lg_sl ([.ref (a 0), .int (nI i), .int (nI j), .ref o])).length) Slot.unset).toArray = ls at hl ⊢
  have hl : lv_has ls 5 [(0, .ref (a 0)), (1, .int (nI i)), (2, .int (nI j)), (3, .ref o)] := hl
  have hTab : c.exceptionTable.toList = tableOf [(0, 10, 13, 13), (0, 10, 17, 15)] := vx_table (x := yL_move) B (hts (.codeWith yL_move cL_move 5 (some .int) [(0, 10, 13, 13), (0, 10, 17, 15)]) (by decide +kernel))
  refine lv_aload_n hx hb dL_move_0 rfl (lv_at hl 3 rfl) ?_
  refine lv_iconst (v := 0) hx hb dL_move_1 (by decide) ?_
  refine lv_aload_n hx hb dL_move_2 rfl (lv_at hl 0 rfl) ?_
  refine lv_iload_n hx hb dL_move_3 rfl (lv_at hl 1 rfl) ?_
  refine lv_iload_n hx hb dL_move_4 rfl (lv_at hl 2 rfl) ?_
  refine vx_calli (A0 := fun q => s.heap.size ≤ q) (H0 := s.heap) (vx_runV (As := [.int (nI i), .int (nI j)]) (rest := [.int 0, .ref o]) ⟨hx, hb, hml, hown, hts⟩ (tX0_move_f l hl9 dC dI cI cZ cA a s.heap.size sa n am rf mk wv lo cf tf T mt im i j hn4 hi hj hc) (cwV 2 hts gL_move_X0_move rfl rfl rfl (by decide +kernel) ⟨Nat.le_of_ble_eq_true rfl, Nat.le_of_ble_eq_true rfl⟩) ⟨blindTP, va_recv hKg (pL hP) (ci := 0) (q0 := 0) rfl rfl, preTP (pL hP) hKg hE⟩ rfl rfl hl.1 rfl (lv_room (Nat.le_of_ble_eq_true rfl)) dL_move_5 ⟨Nat.le_of_ble_eq_true rfl, Nat.le_of_ble_eq_true rfl⟩) va_S.rf (fun q _ h => h) (fun q h => h) (fun q _ h => h) (fun E ce q9 u t H1 locs ht hvm hpx hBX hz hk hS hce hcv hcl => ?_) (fun r_ u t H1 locs ht hvm hw hB hz hk hS => hw.elim)
  have hEe : E = "java/lang/IllegalStateException" := hBX
  subst hEe
  refine vx_catch (name := "java/lang/IllegalStateException") hown [{ startPc := 0, endPc := 10, handlerPc := 13, catchType := 13 }] { startPc := 0, endPc := 10, handlerPc := 17, catchType := 15 } [] (by rw [hTab]; rfl) (fun z hz => by rw [List.mem_singleton.mp hz]; exact Or.inr ⟨by decide, "java/lang/IllegalArgumentException", hts (.classLink RL 13 "java/lang/IllegalArgumentException") (by decide +kernel), hE.2.1.2.2⟩) (by decide) (by decide) (hts (.classLink RL 15 "java/lang/IllegalStateException") (by decide +kernel)) (va_Nw.use rfl hE.2.1.2.1) hce hcv hcl ?_
  refine W.eq (g2 := F0 m 17 ls [.ref q9]) rfl ?_
  refine lv_astore (lv' := [(4, .ref q9), (0, .ref (a 0)), (1, .int (nI i)), (2, .int (nI j)), (3, .ref o)]) hx hb dL_move_17 hl (by decide) rfl (fun ls hl => ?_)
  refine lv_iconst (v := 2) hx hb dL_move_19 (by decide) ?_
  exact W.iret (v := 2) hx hb hr (fun t ht hW => ⟨⟨2, (), rfl, rfl, trivial⟩, hS.F ht⟩) hS.2.2 dL_move_20
