theorem mna_rows {r : Nat → Nat} {f : Nat → va_E} {e : va_E} : va_pl ([] ++ (List.range 8).map r) (vr_up f ((List.range 8).map r) e) = (List.range 8).map (fun d => (r d, e)) := by
  unfold va_pl
  rw [List.nil_append, List.map_map]
  apply List.map_congr_left
  intro d hd
  show (r d, vr_up f ((List.range 8).map r) e (r d)) = (r d, e)
  rw [vr_up_in (List.mem_map.mpr ⟨d, hd, rfl⟩)]
theorem mna_in (c : ClassId) : Jvm.Free.Multi.innerC c 400 (defaultValue .int) = vp_cell c (400, .inl (fun _ => 0)) := by
  show ({ cls := c, slots := Array.replicate 400 (.int 0), vm := .none } : Cell) = _
  rw [arrV_new, vp_cell_i]
theorem AOA_warm {s U : State} (hW : s.WarmedH U.vm) (h : va_AOA .int s) : va_AOA .int U := arrayOver_alikeB hW.alike h
set_option maxHeartbeats 4000000 in
set_option maxRecDepth 100000 in
theorem kX0_init (l : Launch) (dC : Nat → ClassId) (dI : Nat → Nat → Nat) (cI cZ cA : ClassId) (h0 sz : Nat) (k0 : Int32) : Met l yX0_init wsX0_init ({ frames := 1, cells := 15, slots := 7608, locals := 12 }) (va_Pc [.ref h0, .int k0] (fun U => WP dC dI (GT cI cZ cA) ([(h0, .inr (0, [.null, .null, .null, .null, .int 0, .int 0, .null, .int 0, .null, .null, .int 0]))]) sz U ∧ va_AOA .int U)) (va_Qv (fun b : Nat → Nat => b 0 = h0) (fun b => WQ dC dI (GT cI cZ cA) (va_A ([(h0, .inr (0, [.null, .null, .null, .null, .int 0, .int 0, .null, .int 0, .null, .null, .int 0]))]) sz) (XW cI cZ cA b 0 0 0 0 (fun _ => 0) (fun _ => 0) (fun _ => 0) (fun _ => 0) (fun _ _ => 0) (fun _ => 0) (fun _ => 0))) (va_A ([(h0, .inr (0, [.null, .null, .null, .null, .int 0, .int 0, .null, .int 0, .null, .null, .int 0]))]) sz)) 15 7608 (va_A ([(h0, .inr (0, [.null, .null, .null, .null, .int 0, .int 0, .null, .int 0, .null, .null, .int 0]))]) sz) := by
  refine Met.ofW (cc := cX0_init) (maxL := 2) (ret := none) (by decide) rfl ?_
  intro p e s m args below meth c s₁ B hml hv
  obtain ⟨rfl, ⟨hsz, hP, hK, hD0⟩, hAO⟩ := hv
  have hx := B.exec
  have hb := B.bytes
  have hr := B.returns
  have hts := atoms_spec (ws := wsX0_init) B.pre
  have hown : s.vm.findClass RX0 = some m.cls := findClass_of_methodNamed B.named
  have hlocks := B.notSynchronized
  have hin : meth.name = "<init>" := (name_of_methodNamed B.named B.method).1
  have hf_9 := hts (.fieldLink RX0 9 "GraphSearch" "worths" "[I") (by decide +kernel)
  have hf_13 := hts (.fieldLink RX0 13 "GraphSearch" "losts" "[Z") (by decide +kernel)
  have hf_17 := hts (.fieldLink RX0 17 "GraphSearch" "moveCounts" "[I") (by decide +kernel)
  have hf_20 := hts (.fieldLink RX0 20 "GraphSearch" "targets" "[I") (by decide +kernel)
  have hf_23 := hts (.fieldLink RX0 23 "GraphSearch" "nodeCount" "I") (by decide +kernel)
  have hf_27 := hts (.fieldLink RX0 27 "GraphSearch" "allMoves" "I") (by decide +kernel)
  have hf_32 := hts (.fieldLink RX0 32 "GraphSearch" "table" "[[I") (by decide +kernel)
  have hf_35 := hts (.fieldLink RX0 35 "GraphSearch" "rowsFound" "I") (by decide +kernel)
  have hf_38 := hts (.fieldLink RX0 38 "GraphSearch" "met" "[I") (by decide +kernel)
  have hf_41 := hts (.fieldLink RX0 41 "GraphSearch" "isMet" "[Z") (by decide +kernel)
  have hf_44 := hts (.fieldLink RX0 44 "GraphSearch" "metCount" "I") (by decide +kernel)
  have hiw : ∀ w ∈ wsX00, w ∈ wsX0_init := by decide +kernel
  subst hsz
  have hD := hD0.self (sz := s.heap.size)
  generalize hAe : va_A ([(h0, .inr (0, [.null, .null, .null, .null, .int 0, .int 0, .null, .int 0, .null, .null, .int 0]))]) s.heap.size = A at hD ⊢
  have hA : ∀ q : Nat, s.heap.size ≤ q → A q := fun q h => by rw [← hAe]; exact Or.inr h
  have hS : va_S A s.heap s.heap [] := va_S.rf
  have hP : va_P (dC, dI) vwCl ([(h0, .inr (0, [.null, .null, .null, .null, .int 0, .int 0, .null, .int 0, .null, .null, .int 0]))]) s.heap := hP
  have hl := lv_entry ([.ref h0, .int k0]) (n := 2) (Nat.le_of_ble_eq_true rfl)
  rw [lg_entry_eq]
  generalize (lg_sl ([.ref h0, .int k0]) ++ List.replicate (2 - (lg_sl ([.ref h0, .int k0])).length) Slot.unset).toArray = ls at hl ⊢
  have hl : lv_has ls 2 [(0, .ref h0), (1, .int k0)] := hl
  refine lv_aload_n hx hb dX0_init_0 rfl (lv_at hl 0 rfl) ?_
  refine W.objInit hx hb hown (hts (.methodLink RX0 1 objectInit) (by decide +kernel)) (hts (.instanceMethod objectInit) (by decide +kernel)) (hts _ (List.mem_cons_of_mem _ (List.mem_append_left _ (List.mem_of_getElem? (i := 2) rfl)))) rfl (by rw [hml]; exact hl.1) rfl dX0_init_1 (Nat.le_of_ble_eq_true rfl) (Nat.le_of_ble_eq_true rfl) ?_
  refine W.eq (g2 := F0 m 4 ls []) rfl ?_
  refine lv_aload_n hx hb dX0_init_4 rfl (lv_at hl 0 rfl) ?_
  refine lv_sipush (v := 400) hx hb dX0_init_5 (by decide) ?_
  refine va_newa (atype := .int) (n := 400) (ty := .int) (N' := 400) (a0 := (400, .inl (fun _ => 0))) hx hb (hts (.arrayClass .int) (by decide +kernel)) rfl hK hP hD hS hA (fun _ => by rw [vp_cell_i]; rfl) (by decide) (by decide +kernel) (by decide +kernel) (Nat.le_of_ble_eq_true rfl) (Nat.le_of_ble_eq_true rfl) dX0_init_8 (fun q1 c9 H hK hP hD hS => ?_)
  have e9 : c9 = cI := newI hK
  rw [e9] at hP hD
  have hK := hK.sub (tys' := GT cI cZ cA) [0, 1, 2] rfl
  have hP : va_P (dC, dI) vwCl ([(h0, .inr (0, [.null, .null, .null, .null, .int 0, .int 0, .null, .int 0, .null, .null, .int 0])), (q1, .inl (cI, 400, .inl (fun _ => 0)))]) H := hP
  have hD : va_D A ([(h0, .inr (0, [.null, .null, .null, .null, .int 0, .int 0, .null, .int 0, .null, .null, .int 0])), (q1, .inl (cI, 400, .inl (fun _ => 0)))]) := hD
  refine va_putF (D := (dC, dI)) (ci := 0) (v := .ref q1) (ty := .array .int) (C := RX0) (T := TX0) (N := 11) hx hb hts hiw tyX0 tyX0_ok nmX0 hown hK hP hD hS 0 rfl rfl 0 (by decide) hf_9 (fun _ h9 => h9) rfl hin rfl (by decide +kernel) rfl rfl (Nat.le_of_ble_eq_true rfl) dX0_init_10 (fun H locs hP hD hS => ?_)
  have hP : va_P (dC, dI) vwCl ([(h0, .inr (0, [.ref q1, .null, .null, .null, .int 0, .int 0, .null, .int 0, .null, .null, .int 0])), (q1, .inl (cI, 400, .inl (fun _ => 0)))]) H := hP
  have hD : va_D A ([(h0, .inr (0, [.ref q1, .null, .null, .null, .int 0, .int 0, .null, .int 0, .null, .null, .int 0])), (q1, .inl (cI, 400, .inl (fun _ => 0)))]) := hD
  refine lv_aload_n hx hb dX0_init_13 rfl (lv_at hl 0 rfl) ?_
  refine lv_sipush (v := 400) hx hb dX0_init_14 (by decide) ?_
  refine va_newa (atype := .boolean) (n := 400) (ty := .boolean) (N' := 400) (a0 := (400, .inl (fun _ => 0))) hx hb (hts (.arrayClass .boolean) (by decide +kernel)) rfl hK hP hD hS hA (fun _ => by rw [vp_cell_i]; rfl) (by decide) (by decide +kernel) (by decide +kernel) (Nat.le_of_ble_eq_true rfl) (Nat.le_of_ble_eq_true rfl) dX0_init_17 (fun q2 c9 H hK hP hD hS => ?_)
  have e9 : c9 = cZ := newZ hK
  rw [e9] at hP hD
  have hK := hK.sub (tys' := GT cI cZ cA) [0, 1, 2] rfl
  have hP : va_P (dC, dI) vwCl ([(h0, .inr (0, [.ref q1, .null, .null, .null, .int 0, .int 0, .null, .int 0, .null, .null, .int 0])), (q1, .inl (cI, 400, .inl (fun _ => 0))), (q2, .inl (cZ, 400, .inl (fun _ => 0)))]) H := hP
  have hD : va_D A ([(h0, .inr (0, [.ref q1, .null, .null, .null, .int 0, .int 0, .null, .int 0, .null, .null, .int 0])), (q1, .inl (cI, 400, .inl (fun _ => 0))), (q2, .inl (cZ, 400, .inl (fun _ => 0)))]) := hD
  refine va_putF (D := (dC, dI)) (ci := 0) (v := .ref q2) (ty := .array .boolean) (C := RX0) (T := TX0) (N := 11) hx hb hts hiw tyX0 tyX0_ok nmX0 hown hK hP hD hS 0 rfl rfl 1 (by decide) hf_13 (fun _ h9 => h9) rfl hin rfl (by decide +kernel) rfl rfl (Nat.le_of_ble_eq_true rfl) dX0_init_19 (fun H locs hP hD hS => ?_)
  have hP : va_P (dC, dI) vwCl ([(h0, .inr (0, [.ref q1, .ref q2, .null, .null, .int 0, .int 0, .null, .int 0, .null, .null, .int 0])), (q1, .inl (cI, 400, .inl (fun _ => 0))), (q2, .inl (cZ, 400, .inl (fun _ => 0)))]) H := hP
  have hD : va_D A ([(h0, .inr (0, [.ref q1, .ref q2, .null, .null, .int 0, .int 0, .null, .int 0, .null, .null, .int 0])), (q1, .inl (cI, 400, .inl (fun _ => 0))), (q2, .inl (cZ, 400, .inl (fun _ => 0)))]) := hD
  refine lv_aload_n hx hb dX0_init_22 rfl (lv_at hl 0 rfl) ?_
  refine lv_sipush (v := 400) hx hb dX0_init_23 (by decide) ?_
  refine va_newa (atype := .int) (n := 400) (ty := .int) (N' := 400) (a0 := (400, .inl (fun _ => 0))) hx hb (hts (.arrayClass .int) (by decide +kernel)) rfl hK hP hD hS hA (fun _ => by rw [vp_cell_i]; rfl) (by decide) (by decide +kernel) (by decide +kernel) (Nat.le_of_ble_eq_true rfl) (Nat.le_of_ble_eq_true rfl) dX0_init_26 (fun q3 c9 H hK hP hD hS => ?_)
  have e9 : c9 = cI := newI hK
  rw [e9] at hP hD
  have hK := hK.sub (tys' := GT cI cZ cA) [0, 1, 2] rfl
  have hP : va_P (dC, dI) vwCl ([(h0, .inr (0, [.ref q1, .ref q2, .null, .null, .int 0, .int 0, .null, .int 0, .null, .null, .int 0])), (q1, .inl (cI, 400, .inl (fun _ => 0))), (q2, .inl (cZ, 400, .inl (fun _ => 0))), (q3, .inl (cI, 400, .inl (fun _ => 0)))]) H := hP
  have hD : va_D A ([(h0, .inr (0, [.ref q1, .ref q2, .null, .null, .int 0, .int 0, .null, .int 0, .null, .null, .int 0])), (q1, .inl (cI, 400, .inl (fun _ => 0))), (q2, .inl (cZ, 400, .inl (fun _ => 0))), (q3, .inl (cI, 400, .inl (fun _ => 0)))]) := hD
  refine va_putF (D := (dC, dI)) (ci := 0) (v := .ref q3) (ty := .array .int) (C := RX0) (T := TX0) (N := 11) hx hb hts hiw tyX0 tyX0_ok nmX0 hown hK hP hD hS 0 rfl rfl 2 (by decide) hf_17 (fun _ h9 => h9) rfl hin rfl (by decide +kernel) rfl rfl (Nat.le_of_ble_eq_true rfl) dX0_init_28 (fun H locs hP hD hS => ?_)
  have hP : va_P (dC, dI) vwCl ([(h0, .inr (0, [.ref q1, .ref q2, .ref q3, .null, .int 0, .int 0, .null, .int 0, .null, .null, .int 0])), (q1, .inl (cI, 400, .inl (fun _ => 0))), (q2, .inl (cZ, 400, .inl (fun _ => 0))), (q3, .inl (cI, 400, .inl (fun _ => 0)))]) H := hP
  have hD : va_D A ([(h0, .inr (0, [.ref q1, .ref q2, .ref q3, .null, .int 0, .int 0, .null, .int 0, .null, .null, .int 0])), (q1, .inl (cI, 400, .inl (fun _ => 0))), (q2, .inl (cZ, 400, .inl (fun _ => 0))), (q3, .inl (cI, 400, .inl (fun _ => 0)))]) := hD
  refine lv_aload_n hx hb dX0_init_31 rfl (lv_at hl 0 rfl) ?_
  refine lv_sipush (v := 2400) hx hb dX0_init_32 (by decide) ?_
  refine va_newa (atype := .int) (n := 2400) (ty := .int) (N' := 2400) (a0 := (2400, .inl (fun _ => 0))) hx hb (hts (.arrayClass .int) (by decide +kernel)) rfl hK hP hD hS hA (fun _ => by rw [vp_cell_i]; rfl) (by decide) (by decide +kernel) (by decide +kernel) (Nat.le_of_ble_eq_true rfl) (Nat.le_of_ble_eq_true rfl) dX0_init_35 (fun q4 c9 H hK hP hD hS => ?_)
  have e9 : c9 = cI := newI hK
  rw [e9] at hP hD
  have hK := hK.sub (tys' := GT cI cZ cA) [0, 1, 2] rfl
  have hP : va_P (dC, dI) vwCl ([(h0, .inr (0, [.ref q1, .ref q2, .ref q3, .null, .int 0, .int 0, .null, .int 0, .null, .null, .int 0])), (q1, .inl (cI, 400, .inl (fun _ => 0))), (q2, .inl (cZ, 400, .inl (fun _ => 0))), (q3, .inl (cI, 400, .inl (fun _ => 0))), (q4, .inl (cI, 2400, .inl (fun _ => 0)))]) H := hP
  have hD : va_D A ([(h0, .inr (0, [.ref q1, .ref q2, .ref q3, .null, .int 0, .int 0, .null, .int 0, .null, .null, .int 0])), (q1, .inl (cI, 400, .inl (fun _ => 0))), (q2, .inl (cZ, 400, .inl (fun _ => 0))), (q3, .inl (cI, 400, .inl (fun _ => 0))), (q4, .inl (cI, 2400, .inl (fun _ => 0)))]) := hD
  refine va_putF (D := (dC, dI)) (ci := 0) (v := .ref q4) (ty := .array .int) (C := RX0) (T := TX0) (N := 11) hx hb hts hiw tyX0 tyX0_ok nmX0 hown hK hP hD hS 0 rfl rfl 3 (by decide) hf_20 (fun _ h9 => h9) rfl hin rfl (by decide +kernel) rfl rfl (Nat.le_of_ble_eq_true rfl) dX0_init_37 (fun H locs hP hD hS => ?_)
  have hP : va_P (dC, dI) vwCl ([(h0, .inr (0, [.ref q1, .ref q2, .ref q3, .ref q4, .int 0, .int 0, .null, .int 0, .null, .null, .int 0])), (q1, .inl (cI, 400, .inl (fun _ => 0))), (q2, .inl (cZ, 400, .inl (fun _ => 0))), (q3, .inl (cI, 400, .inl (fun _ => 0))), (q4, .inl (cI, 2400, .inl (fun _ => 0)))]) H := hP
  have hD : va_D A ([(h0, .inr (0, [.ref q1, .ref q2, .ref q3, .ref q4, .int 0, .int 0, .null, .int 0, .null, .null, .int 0])), (q1, .inl (cI, 400, .inl (fun _ => 0))), (q2, .inl (cZ, 400, .inl (fun _ => 0))), (q3, .inl (cI, 400, .inl (fun _ => 0))), (q4, .inl (cI, 2400, .inl (fun _ => 0)))]) := hD
  refine lv_aload_n hx hb dX0_init_40 rfl (lv_at hl 0 rfl) ?_
  refine lv_iconst (v := 0) hx hb dX0_init_41 (by decide) ?_
  refine va_put (D := (dC, dI)) (ci := 0) (v := .int 0) (ty := .int) (C := RX0) (T := TX0) (N := 11) hx hb hts hiw tyX0 tyX0_ok nmX0 hown hK hP hD hS 0 rfl rfl 4 (by decide) hf_23 (fun _ h9 => h9) rfl (by decide +kernel) rfl rfl (Nat.le_of_ble_eq_true rfl) dX0_init_42 (fun H locs hP hD hS => ?_)
  have hP : va_P (dC, dI) vwCl ([(h0, .inr (0, [.ref q1, .ref q2, .ref q3, .ref q4, .int 0, .int 0, .null, .int 0, .null, .null, .int 0])), (q1, .inl (cI, 400, .inl (fun _ => 0))), (q2, .inl (cZ, 400, .inl (fun _ => 0))), (q3, .inl (cI, 400, .inl (fun _ => 0))), (q4, .inl (cI, 2400, .inl (fun _ => 0)))]) H := hP
  have hD : va_D A ([(h0, .inr (0, [.ref q1, .ref q2, .ref q3, .ref q4, .int 0, .int 0, .null, .int 0, .null, .null, .int 0])), (q1, .inl (cI, 400, .inl (fun _ => 0))), (q2, .inl (cZ, 400, .inl (fun _ => 0))), (q3, .inl (cI, 400, .inl (fun _ => 0))), (q4, .inl (cI, 2400, .inl (fun _ => 0)))]) := hD
  refine lv_aload_n hx hb dX0_init_45 rfl (lv_at hl 0 rfl) ?_
  refine lv_iconst (v := 0) hx hb dX0_init_46 (by decide) ?_
  refine va_put (D := (dC, dI)) (ci := 0) (v := .int 0) (ty := .int) (C := RX0) (T := TX0) (N := 11) hx hb hts hiw tyX0 tyX0_ok nmX0 hown hK hP hD hS 0 rfl rfl 5 (by decide) hf_27 (fun _ h9 => h9) rfl (by decide +kernel) rfl rfl (Nat.le_of_ble_eq_true rfl) dX0_init_47 (fun H locs hP hD hS => ?_)
  have hP : va_P (dC, dI) vwCl ([(h0, .inr (0, [.ref q1, .ref q2, .ref q3, .ref q4, .int 0, .int 0, .null, .int 0, .null, .null, .int 0])), (q1, .inl (cI, 400, .inl (fun _ => 0))), (q2, .inl (cZ, 400, .inl (fun _ => 0))), (q3, .inl (cI, 400, .inl (fun _ => 0))), (q4, .inl (cI, 2400, .inl (fun _ => 0)))]) H := hP
  have hD : va_D A ([(h0, .inr (0, [.ref q1, .ref q2, .ref q3, .ref q4, .int 0, .int 0, .null, .int 0, .null, .null, .int 0])), (q1, .inl (cI, 400, .inl (fun _ => 0))), (q2, .inl (cZ, 400, .inl (fun _ => 0))), (q3, .inl (cI, 400, .inl (fun _ => 0))), (q4, .inl (cI, 2400, .inl (fun _ => 0)))]) := hD
  refine lv_aload_n hx hb dX0_init_50 rfl (lv_at hl 0 rfl) ?_
  refine lv_bipush (v := 8) hx hb dX0_init_51 (by decide) ?_
  refine lv_sipush (v := 400) hx hb dX0_init_53 (by decide) ?_
  have hcy : s.vm.findClass (FieldType.array .int).toString = some cI := (hK.2 0 (cI, .int) rfl).2
  refine va_mna (X := [(h0, .inr (0, [.ref q1, .ref q2, .ref q3, .ref q4, .int 0, .int 0, .null, .int 0, .null, .null, .int 0])), (q1, .inl (cI, 400, .inl (fun _ => 0))), (q2, .inl (cZ, 400, .inl (fun _ => 0))), (q3, .inl (cI, 400, .inl (fun _ => 0))), (q4, .inl (cI, 2400, .inl (fun _ => 0)))]) (L := []) (f := fun _ => .inl (cI, 0, .inl (fun _ => 0))) (own := RX0) (index := 30) (ty := .int) (cy := cI) (n := 8) (k := 400) (N' := 8) (K' := 400) (z := (400, .inl (fun _ => 0))) hx hb hown (by rw [show "[" ++ (FieldType.array .int).toString = "[[I" by decide +kernel]; exact hts (.classLink RX0 30 "[[I") (by decide +kernel)) hAO (hts (.arrayClass .int) (by decide +kernel)) hcy hK hP hD hS hA (by decide) (by decide) (by decide +kernel) (by decide +kernel) (by decide +kernel) (by decide +kernel) (by decide) rfl rfl (Nat.le_of_ble_eq_true rfl) (Nat.le_of_ble_eq_true rfl) mna_in dX0_init_56 (fun q5 r c9 H hr1 hr2 hK hP hD hS => ?_)
  have e9 : c9 = cA := newA hK
  rw [e9, mna_rows] at hP hD
  have hK := hK.sub (tys' := GT cI cZ cA) [0, 1, 2] rfl
  have hP : va_P (dC, dI) vwCl ([(h0, .inr (0, [.ref q1, .ref q2, .ref q3, .ref q4, .int 0, .int 0, .null, .int 0, .null, .null, .int 0])), (q1, .inl (cI, 400, .inl (fun _ => 0))), (q2, .inl (cZ, 400, .inl (fun _ => 0))), (q3, .inl (cI, 400, .inl (fun _ => 0))), (q4, .inl (cI, 2400, .inl (fun _ => 0))), (q5, .inl (cA, 8, .inr (.inr (.inr (.inr (fun i => if i < 8 then some (r i) else none))))))] ++ (List.range 8).map (fun d => (r d, .inl (cI, 400, .inl (fun _ => 0))))) H := hP
  have hD : va_D A ([(h0, .inr (0, [.ref q1, .ref q2, .ref q3, .ref q4, .int 0, .int 0, .null, .int 0, .null, .null, .int 0])), (q1, .inl (cI, 400, .inl (fun _ => 0))), (q2, .inl (cZ, 400, .inl (fun _ => 0))), (q3, .inl (cI, 400, .inl (fun _ => 0))), (q4, .inl (cI, 2400, .inl (fun _ => 0))), (q5, .inl (cA, 8, .inr (.inr (.inr (.inr (fun i => if i < 8 then some (r i) else none))))))] ++ (List.range 8).map (fun d => (r d, .inl (cI, 400, .inl (fun _ => 0))))) := hD
  refine va_putF (D := (dC, dI)) (ci := 0) (v := .ref q5) (ty := .array (.array .int)) (C := RX0) (T := TX0) (N := 11) hx hb hts hiw tyX0 tyX0_ok nmX0 hown hK hP hD hS 0 rfl rfl 6 (by decide) hf_32 (fun _ h9 => h9) rfl hin rfl (by decide +kernel) rfl rfl (Nat.le_of_ble_eq_true rfl) dX0_init_60 (fun H locs hP hD hS => ?_)
  have hP : va_P (dC, dI) vwCl ([(h0, .inr (0, [.ref q1, .ref q2, .ref q3, .ref q4, .int 0, .int 0, .ref q5, .int 0, .null, .null, .int 0])), (q1, .inl (cI, 400, .inl (fun _ => 0))), (q2, .inl (cZ, 400, .inl (fun _ => 0))), (q3, .inl (cI, 400, .inl (fun _ => 0))), (q4, .inl (cI, 2400, .inl (fun _ => 0))), (q5, .inl (cA, 8, .inr (.inr (.inr (.inr (fun i => if i < 8 then some (r i) else none))))))] ++ (List.range 8).map (fun d => (r d, .inl (cI, 400, .inl (fun _ => 0))))) H := hP
  have hD : va_D A ([(h0, .inr (0, [.ref q1, .ref q2, .ref q3, .ref q4, .int 0, .int 0, .ref q5, .int 0, .null, .null, .int 0])), (q1, .inl (cI, 400, .inl (fun _ => 0))), (q2, .inl (cZ, 400, .inl (fun _ => 0))), (q3, .inl (cI, 400, .inl (fun _ => 0))), (q4, .inl (cI, 2400, .inl (fun _ => 0))), (q5, .inl (cA, 8, .inr (.inr (.inr (.inr (fun i => if i < 8 then some (r i) else none))))))] ++ (List.range 8).map (fun d => (r d, .inl (cI, 400, .inl (fun _ => 0))))) := hD
  refine lv_aload_n hx hb dX0_init_63 rfl (lv_at hl 0 rfl) ?_
  refine lv_iconst (v := 0) hx hb dX0_init_64 (by decide) ?_
  refine va_put (D := (dC, dI)) (ci := 0) (v := .int 0) (ty := .int) (C := RX0) (T := TX0) (N := 11) hx hb hts hiw tyX0 tyX0_ok nmX0 hown hK hP hD hS 0 rfl rfl 7 (by decide) hf_35 (fun _ h9 => h9) rfl (by decide +kernel) rfl rfl (Nat.le_of_ble_eq_true rfl) dX0_init_65 (fun H locs hP hD hS => ?_)
  have hP : va_P (dC, dI) vwCl ([(h0, .inr (0, [.ref q1, .ref q2, .ref q3, .ref q4, .int 0, .int 0, .ref q5, .int 0, .null, .null, .int 0])), (q1, .inl (cI, 400, .inl (fun _ => 0))), (q2, .inl (cZ, 400, .inl (fun _ => 0))), (q3, .inl (cI, 400, .inl (fun _ => 0))), (q4, .inl (cI, 2400, .inl (fun _ => 0))), (q5, .inl (cA, 8, .inr (.inr (.inr (.inr (fun i => if i < 8 then some (r i) else none))))))] ++ (List.range 8).map (fun d => (r d, .inl (cI, 400, .inl (fun _ => 0))))) H := hP
  have hD : va_D A ([(h0, .inr (0, [.ref q1, .ref q2, .ref q3, .ref q4, .int 0, .int 0, .ref q5, .int 0, .null, .null, .int 0])), (q1, .inl (cI, 400, .inl (fun _ => 0))), (q2, .inl (cZ, 400, .inl (fun _ => 0))), (q3, .inl (cI, 400, .inl (fun _ => 0))), (q4, .inl (cI, 2400, .inl (fun _ => 0))), (q5, .inl (cA, 8, .inr (.inr (.inr (.inr (fun i => if i < 8 then some (r i) else none))))))] ++ (List.range 8).map (fun d => (r d, .inl (cI, 400, .inl (fun _ => 0))))) := hD
  refine lv_aload_n hx hb dX0_init_68 rfl (lv_at hl 0 rfl) ?_
  refine lv_sipush (v := 400) hx hb dX0_init_69 (by decide) ?_
  refine va_newa (atype := .int) (n := 400) (ty := .int) (N' := 400) (a0 := (400, .inl (fun _ => 0))) hx hb (hts (.arrayClass .int) (by decide +kernel)) rfl hK hP hD hS hA (fun _ => by rw [vp_cell_i]; rfl) (by decide) (by decide +kernel) (by decide +kernel) (Nat.le_of_ble_eq_true rfl) (Nat.le_of_ble_eq_true rfl) dX0_init_72 (fun q6 c9 H hK hP hD hS => ?_)
  have e9 : c9 = cI := newI hK
  rw [e9] at hP hD
  have hK := hK.sub (tys' := GT cI cZ cA) [0, 1, 2] rfl
  have hP : va_P (dC, dI) vwCl ([(h0, .inr (0, [.ref q1, .ref q2, .ref q3, .ref q4, .int 0, .int 0, .ref q5, .int 0, .null, .null, .int 0])), (q1, .inl (cI, 400, .inl (fun _ => 0))), (q2, .inl (cZ, 400, .inl (fun _ => 0))), (q3, .inl (cI, 400, .inl (fun _ => 0))), (q4, .inl (cI, 2400, .inl (fun _ => 0))), (q5, .inl (cA, 8, .inr (.inr (.inr (.inr (fun i => if i < 8 then some (r i) else none))))))] ++ (List.range 8).map (fun d => (r d, .inl (cI, 400, .inl (fun _ => 0)))) ++ [(q6, .inl (cI, 400, .inl (fun _ => 0)))]) H := hP
  have hD : va_D A ([(h0, .inr (0, [.ref q1, .ref q2, .ref q3, .ref q4, .int 0, .int 0, .ref q5, .int 0, .null, .null, .int 0])), (q1, .inl (cI, 400, .inl (fun _ => 0))), (q2, .inl (cZ, 400, .inl (fun _ => 0))), (q3, .inl (cI, 400, .inl (fun _ => 0))), (q4, .inl (cI, 2400, .inl (fun _ => 0))), (q5, .inl (cA, 8, .inr (.inr (.inr (.inr (fun i => if i < 8 then some (r i) else none))))))] ++ (List.range 8).map (fun d => (r d, .inl (cI, 400, .inl (fun _ => 0)))) ++ [(q6, .inl (cI, 400, .inl (fun _ => 0)))]) := hD
  refine va_putF (D := (dC, dI)) (ci := 0) (v := .ref q6) (ty := .array .int) (C := RX0) (T := TX0) (N := 11) hx hb hts hiw tyX0 tyX0_ok nmX0 hown hK hP hD hS 0 rfl rfl 8 (by decide) hf_38 (fun _ h9 => h9) rfl hin rfl (by decide +kernel) rfl rfl (Nat.le_of_ble_eq_true rfl) dX0_init_74 (fun H locs hP hD hS => ?_)
  have hP : va_P (dC, dI) vwCl ([(h0, .inr (0, [.ref q1, .ref q2, .ref q3, .ref q4, .int 0, .int 0, .ref q5, .int 0, .ref q6, .null, .int 0])), (q1, .inl (cI, 400, .inl (fun _ => 0))), (q2, .inl (cZ, 400, .inl (fun _ => 0))), (q3, .inl (cI, 400, .inl (fun _ => 0))), (q4, .inl (cI, 2400, .inl (fun _ => 0))), (q5, .inl (cA, 8, .inr (.inr (.inr (.inr (fun i => if i < 8 then some (r i) else none))))))] ++ (List.range 8).map (fun d => (r d, .inl (cI, 400, .inl (fun _ => 0)))) ++ [(q6, .inl (cI, 400, .inl (fun _ => 0)))]) H := hP
  have hD : va_D A ([(h0, .inr (0, [.ref q1, .ref q2, .ref q3, .ref q4, .int 0, .int 0, .ref q5, .int 0, .ref q6, .null, .int 0])), (q1, .inl (cI, 400, .inl (fun _ => 0))), (q2, .inl (cZ, 400, .inl (fun _ => 0))), (q3, .inl (cI, 400, .inl (fun _ => 0))), (q4, .inl (cI, 2400, .inl (fun _ => 0))), (q5, .inl (cA, 8, .inr (.inr (.inr (.inr (fun i => if i < 8 then some (r i) else none))))))] ++ (List.range 8).map (fun d => (r d, .inl (cI, 400, .inl (fun _ => 0)))) ++ [(q6, .inl (cI, 400, .inl (fun _ => 0)))]) := hD
  refine lv_aload_n hx hb dX0_init_77 rfl (lv_at hl 0 rfl) ?_
  refine lv_sipush (v := 400) hx hb dX0_init_78 (by decide) ?_
  refine va_newa (atype := .boolean) (n := 400) (ty := .boolean) (N' := 400) (a0 := (400, .inl (fun _ => 0))) hx hb (hts (.arrayClass .boolean) (by decide +kernel)) rfl hK hP hD hS hA (fun _ => by rw [vp_cell_i]; rfl) (by decide) (by decide +kernel) (by decide +kernel) (Nat.le_of_ble_eq_true rfl) (Nat.le_of_ble_eq_true rfl) dX0_init_81 (fun q7 c9 H hK hP hD hS => ?_)
  have e9 : c9 = cZ := newZ hK
  rw [e9] at hP hD
  have hK := hK.sub (tys' := GT cI cZ cA) [0, 1, 2] rfl
  have hP : va_P (dC, dI) vwCl ([(h0, .inr (0, [.ref q1, .ref q2, .ref q3, .ref q4, .int 0, .int 0, .ref q5, .int 0, .ref q6, .null, .int 0])), (q1, .inl (cI, 400, .inl (fun _ => 0))), (q2, .inl (cZ, 400, .inl (fun _ => 0))), (q3, .inl (cI, 400, .inl (fun _ => 0))), (q4, .inl (cI, 2400, .inl (fun _ => 0))), (q5, .inl (cA, 8, .inr (.inr (.inr (.inr (fun i => if i < 8 then some (r i) else none))))))] ++ (List.range 8).map (fun d => (r d, .inl (cI, 400, .inl (fun _ => 0)))) ++ [(q6, .inl (cI, 400, .inl (fun _ => 0)))] ++ [(q7, .inl (cZ, 400, .inl (fun _ => 0)))]) H := hP
  have hD : va_D A ([(h0, .inr (0, [.ref q1, .ref q2, .ref q3, .ref q4, .int 0, .int 0, .ref q5, .int 0, .ref q6, .null, .int 0])), (q1, .inl (cI, 400, .inl (fun _ => 0))), (q2, .inl (cZ, 400, .inl (fun _ => 0))), (q3, .inl (cI, 400, .inl (fun _ => 0))), (q4, .inl (cI, 2400, .inl (fun _ => 0))), (q5, .inl (cA, 8, .inr (.inr (.inr (.inr (fun i => if i < 8 then some (r i) else none))))))] ++ (List.range 8).map (fun d => (r d, .inl (cI, 400, .inl (fun _ => 0)))) ++ [(q6, .inl (cI, 400, .inl (fun _ => 0)))] ++ [(q7, .inl (cZ, 400, .inl (fun _ => 0)))]) := hD
  refine va_putF (D := (dC, dI)) (ci := 0) (v := .ref q7) (ty := .array .boolean) (C := RX0) (T := TX0) (N := 11) hx hb hts hiw tyX0 tyX0_ok nmX0 hown hK hP hD hS 0 rfl rfl 9 (by decide) hf_41 (fun _ h9 => h9) rfl hin rfl (by decide +kernel) rfl rfl (Nat.le_of_ble_eq_true rfl) dX0_init_83 (fun H locs hP hD hS => ?_)
  have hP : va_P (dC, dI) vwCl ([(h0, .inr (0, [.ref q1, .ref q2, .ref q3, .ref q4, .int 0, .int 0, .ref q5, .int 0, .ref q6, .ref q7, .int 0])), (q1, .inl (cI, 400, .inl (fun _ => 0))), (q2, .inl (cZ, 400, .inl (fun _ => 0))), (q3, .inl (cI, 400, .inl (fun _ => 0))), (q4, .inl (cI, 2400, .inl (fun _ => 0))), (q5, .inl (cA, 8, .inr (.inr (.inr (.inr (fun i => if i < 8 then some (r i) else none))))))] ++ (List.range 8).map (fun d => (r d, .inl (cI, 400, .inl (fun _ => 0)))) ++ [(q6, .inl (cI, 400, .inl (fun _ => 0)))] ++ [(q7, .inl (cZ, 400, .inl (fun _ => 0)))]) H := hP
  have hD : va_D A ([(h0, .inr (0, [.ref q1, .ref q2, .ref q3, .ref q4, .int 0, .int 0, .ref q5, .int 0, .ref q6, .ref q7, .int 0])), (q1, .inl (cI, 400, .inl (fun _ => 0))), (q2, .inl (cZ, 400, .inl (fun _ => 0))), (q3, .inl (cI, 400, .inl (fun _ => 0))), (q4, .inl (cI, 2400, .inl (fun _ => 0))), (q5, .inl (cA, 8, .inr (.inr (.inr (.inr (fun i => if i < 8 then some (r i) else none))))))] ++ (List.range 8).map (fun d => (r d, .inl (cI, 400, .inl (fun _ => 0)))) ++ [(q6, .inl (cI, 400, .inl (fun _ => 0)))] ++ [(q7, .inl (cZ, 400, .inl (fun _ => 0)))]) := hD
  refine lv_aload_n hx hb dX0_init_86 rfl (lv_at hl 0 rfl) ?_
  refine lv_iconst (v := 0) hx hb dX0_init_87 (by decide) ?_
  refine va_put (D := (dC, dI)) (ci := 0) (v := .int 0) (ty := .int) (C := RX0) (T := TX0) (N := 11) hx hb hts hiw tyX0 tyX0_ok nmX0 hown hK hP hD hS 0 rfl rfl 10 (by decide) hf_44 (fun _ h9 => h9) rfl (by decide +kernel) rfl rfl (Nat.le_of_ble_eq_true rfl) dX0_init_88 (fun H locs hP hD hS => ?_)
  have hP : va_P (dC, dI) vwCl ([(h0, .inr (0, [.ref q1, .ref q2, .ref q3, .ref q4, .int 0, .int 0, .ref q5, .int 0, .ref q6, .ref q7, .int 0])), (q1, .inl (cI, 400, .inl (fun _ => 0))), (q2, .inl (cZ, 400, .inl (fun _ => 0))), (q3, .inl (cI, 400, .inl (fun _ => 0))), (q4, .inl (cI, 2400, .inl (fun _ => 0))), (q5, .inl (cA, 8, .inr (.inr (.inr (.inr (fun i => if i < 8 then some (r i) else none))))))] ++ (List.range 8).map (fun d => (r d, .inl (cI, 400, .inl (fun _ => 0)))) ++ [(q6, .inl (cI, 400, .inl (fun _ => 0)))] ++ [(q7, .inl (cZ, 400, .inl (fun _ => 0)))]) H := hP
  have hD : va_D A ([(h0, .inr (0, [.ref q1, .ref q2, .ref q3, .ref q4, .int 0, .int 0, .ref q5, .int 0, .ref q6, .ref q7, .int 0])), (q1, .inl (cI, 400, .inl (fun _ => 0))), (q2, .inl (cZ, 400, .inl (fun _ => 0))), (q3, .inl (cI, 400, .inl (fun _ => 0))), (q4, .inl (cI, 2400, .inl (fun _ => 0))), (q5, .inl (cA, 8, .inr (.inr (.inr (.inr (fun i => if i < 8 then some (r i) else none))))))] ++ (List.range 8).map (fun d => (r d, .inl (cI, 400, .inl (fun _ => 0)))) ++ [(q6, .inl (cI, 400, .inl (fun _ => 0)))] ++ [(q7, .inl (cZ, 400, .inl (fun _ => 0)))]) := hD
  refine W.widen (k := 15) (n := 7608) (Nat.le_of_ble_eq_true rfl) (Nat.le_of_ble_eq_true rfl) ?_
  obtain ⟨b, hb0, hb1, hb2, hb3, hb4, hb5, hb6, hb7, hb8⟩ : ∃ b : Nat → Nat, b 0 = h0 ∧ b 1 = q1 ∧ b 2 = q2 ∧ b 3 = q3 ∧ b 4 = q4 ∧ b 5 = q5 ∧ b 6 = q6 ∧ b 7 = q7 ∧ r = fun i => b (8 + i) := ⟨fun k => if 8 ≤ k then r (k - 8) else [h0, q1, q2, q3, q4, q5, q6, q7].getD k 0, rfl, rfl, rfl, rfl, rfl, rfl, rfl, rfl, funext fun i => by show r i = if 8 ≤ 8 + i then r (8 + i - 8) else _; rw [if_pos (Nat.le_add_right 8 i), Nat.add_sub_cancel_left]⟩
  rw [← hb0, ← hb1, ← hb2, ← hb3, ← hb4, ← hb5, ← hb6, ← hb7, hb8] at hP hD
  have hP := hP.sub (ws' := XW cI cZ cA b 0 0 0 0 (fun _ => 0) (fun _ => 0) (fun _ => 0) (fun _ => 0) (fun _ _ => 0) (fun _ => 0) (fun _ => 0)) [0, 1, 2, 3, 4, 5, 14, 15, 6, 7, 8, 9, 10, 11, 12, 13] rfl
  have hD := hD.sub (ws' := XW cI cZ cA b 0 0 0 0 (fun _ => 0) (fun _ => 0) (fun _ => 0) (fun _ => 0) (fun _ _ => 0) (fun _ => 0) (fun _ => 0)) [0, 1, 2, 3, 4, 5, 14, 15, 6, 7, 8, 9, 10, 11, 12, 13] (by decide) rfl
  exact W.vret hx hb hr (fun t ht hW => ⟨⟨b, rfl, hb0, by rw [ht]; exact hP, va_K.moved hW.alike hK, hD⟩, hS.F ht⟩) hS.2.2 dX0_init_91
