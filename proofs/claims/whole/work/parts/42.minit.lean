theorem newI {D : va_G} {cl : List vw_C} {cI cZ cA c9 : ClassId} {s : State} (hK : va_K D cl (GT cI cZ cA ++ [(c9, .int)]) s) : c9 = cI := by
  have h1 : s.vm.findClass ("[" ++ FieldType.int.toString) = some cI := (hK.2 0 (cI, .int) rfl).2
  have h2 : s.vm.findClass ("[" ++ FieldType.int.toString) = some c9 := (hK.2 3 (c9, .int) rfl).2
  exact Option.some.inj (h2.symm.trans h1)
theorem newZ {D : va_G} {cl : List vw_C} {cI cZ cA c9 : ClassId} {s : State} (hK : va_K D cl (GT cI cZ cA ++ [(c9, .boolean)]) s) : c9 = cZ := by
  have h1 : s.vm.findClass ("[" ++ FieldType.boolean.toString) = some cZ := (hK.2 1 (cZ, .boolean) rfl).2
  have h2 : s.vm.findClass ("[" ++ FieldType.boolean.toString) = some c9 := (hK.2 3 (c9, .boolean) rfl).2
  exact Option.some.inj (h2.symm.trans h1)
theorem newA {D : va_G} {cl : List vw_C} {cI cZ cA c9 : ClassId} {s : State} (hK : va_K D cl (GT cI cZ cA ++ [(c9, .array .int)]) s) : c9 = cA := by
  have h1 : s.vm.findClass ("[" ++ (FieldType.array .int).toString) = some cA := (hK.2 2 (cA, .array .int) rfl).2
  have h2 : s.vm.findClass ("[" ++ (FieldType.array .int).toString) = some c9 := (hK.2 3 (c9, .array .int) rfl).2
  exact Option.some.inj (h2.symm.trans h1)
set_option maxHeartbeats 400000 in
set_option maxRecDepth 100000 in
theorem kX1_init (l : Launch) (dC : Nat → ClassId) (dI : Nat → Nat → Nat) (cI cZ cA : ClassId) (h0 sz : Nat) (k0 : Int32) : Met l yX1_init wsX1_init ({ frames := 1, cells := 6, slots := 7200, locals := 12 }) (va_Pc [.ref h0, .int k0] (fun U => WP dC dI (GT cI cZ cA) ([(h0, .inr (1, [.int 0, .int 0, .null, .null, .null, .null, .null, .null]))]) sz U)) (va_Qv (fun b : Nat → Nat => b 0 = h0) (fun b => WQ dC dI (GT cI cZ cA) (va_A ([(h0, .inr (1, [.int 0, .int 0, .null, .null, .null, .null, .null, .null]))]) sz) (MW cI cZ b 0 0 (fun _ => 0) (fun _ => 0) (fun _ => 0) (fun _ => 0) (fun _ => 0) (fun _ => 0))) (va_A ([(h0, .inr (1, [.int 0, .int 0, .null, .null, .null, .null, .null, .null]))]) sz)) 6 7200 (va_A ([(h0, .inr (1, [.int 0, .int 0, .null, .null, .null, .null, .null, .null]))]) sz) := by
  refine Met.ofW (cc := cX1_init) (maxL := 2) (ret := none) (by decide) rfl ?_
  intro p e s m args below meth c s₁ B hml hv
  obtain ⟨rfl, hsz, hP, hK, hD0⟩ := hv
  have hx := B.exec
  have hb := B.bytes
  have hr := B.returns
  have hts := atoms_spec (ws := wsX1_init) B.pre
  have hown : s.vm.findClass RX1 = some m.cls := findClass_of_methodNamed B.named
  have hlocks := B.notSynchronized
  have hin : meth.name = "<init>" := (name_of_methodNamed B.named B.method).1
  have hf_7 := hts (.fieldLink RX1 7 "GraphSearchModel" "worth" "[I") (by decide +kernel)
  have hf_13 := hts (.fieldLink RX1 13 "GraphSearchModel" "lost" "[Z") (by decide +kernel)
  have hf_17 := hts (.fieldLink RX1 17 "GraphSearchModel" "many" "[I") (by decide +kernel)
  have hf_20 := hts (.fieldLink RX1 20 "GraphSearchModel" "to" "[I") (by decide +kernel)
  have hf_23 := hts (.fieldLink RX1 23 "GraphSearchModel" "values" "[I") (by decide +kernel)
  have hf_26 := hts (.fieldLink RX1 26 "GraphSearchModel" "near" "[I") (by decide +kernel)
  have hiw : ∀ w ∈ wsX10, w ∈ wsX1_init := by decide +kernel
  subst hsz
  have hD := hD0.self (sz := s.heap.size)
  generalize hAe : va_A ([(h0, .inr (1, [.int 0, .int 0, .null, .null, .null, .null, .null, .null]))]) s.heap.size = A at hD ⊢
  have hA : ∀ q : Nat, s.heap.size ≤ q → A q := fun q h => by rw [← hAe]; exact Or.inr h
  have hS : va_S A s.heap s.heap [] := va_S.rf
  have hP : va_P (dC, dI) vwCl ([(h0, .inr (1, [.int 0, .int 0, .null, .null, .null, .null, .null, .null]))]) s.heap := hP
  have hl := lv_entry ([.ref h0, .int k0]) (n := 2) (Nat.le_of_ble_eq_true rfl)
  rw [lg_entry_eq]
  generalize (lg_sl ([.ref h0, .int k0]) ++ List.replicate (2 - (lg_sl ([.ref h0, .int k0])).length) Slot.unset).toArray = ls at hl ⊢
  have hl : lv_has ls 2 [(0, .ref h0), (1, .int k0)] := hl
  refine lv_aload_n hx hb dX1_init_0 rfl (lv_at hl 0 rfl) ?_
  refine W.objInit hx hb hown (hts (.methodLink RX1 1 objectInit) (by decide +kernel)) (hts (.instanceMethod objectInit) (by decide +kernel)) (hts _ (List.mem_cons_of_mem _ (List.mem_append_left _ (List.mem_of_getElem? (i := 2) rfl)))) rfl (by rw [hml]; exact hl.1) rfl dX1_init_1 (Nat.le_of_ble_eq_true rfl) (Nat.le_of_ble_eq_true rfl) ?_
  refine W.eq (g2 := F0 m 4 ls []) rfl ?_
  refine lv_aload_n hx hb dX1_init_4 rfl (lv_at hl 0 rfl) ?_
  refine lv_sipush (v := 400) hx hb dX1_init_5 (by decide) ?_
  refine va_newa (atype := .int) (n := 400) (ty := .int) (N' := 400) (a0 := (400, .inl (fun _ => 0))) hx hb (hts (.arrayClass .int) (by decide +kernel)) rfl hK hP hD hS hA (fun _ => by rw [vp_cell_i]; rfl) (by decide) (by decide +kernel) (by decide +kernel) (Nat.le_of_ble_eq_true rfl) (Nat.le_of_ble_eq_true rfl) dX1_init_8 (fun q1 c9 H hK hP hD hS => ?_)
  have e9 : c9 = cI := newI hK
  rw [e9] at hP hD
  have hK := hK.sub (tys' := GT cI cZ cA) [0, 1, 2] rfl
  have hP : va_P (dC, dI) vwCl ([(h0, .inr (1, [.int 0, .int 0, .null, .null, .null, .null, .null, .null])), (q1, .inl (cI, 400, .inl (fun _ => 0)))]) H := hP
  have hD : va_D A ([(h0, .inr (1, [.int 0, .int 0, .null, .null, .null, .null, .null, .null])), (q1, .inl (cI, 400, .inl (fun _ => 0)))]) := hD
  refine va_putF (D := (dC, dI)) (ci := 1) (v := .ref q1) (ty := .array .int) (C := RX1) (T := TX1) (N := 8) hx hb hts hiw tyX1 tyX1_ok nmX1 hown hK hP hD hS 0 rfl rfl 2 (by decide) hf_7 (fun _ h9 => h9) rfl hin rfl (by decide +kernel) rfl rfl (Nat.le_of_ble_eq_true rfl) dX1_init_10 (fun H locs hP hD hS => ?_)
  have hP : va_P (dC, dI) vwCl ([(h0, .inr (1, [.int 0, .int 0, .ref q1, .null, .null, .null, .null, .null])), (q1, .inl (cI, 400, .inl (fun _ => 0)))]) H := hP
  have hD : va_D A ([(h0, .inr (1, [.int 0, .int 0, .ref q1, .null, .null, .null, .null, .null])), (q1, .inl (cI, 400, .inl (fun _ => 0)))]) := hD
  refine lv_aload_n hx hb dX1_init_13 rfl (lv_at hl 0 rfl) ?_
  refine lv_sipush (v := 400) hx hb dX1_init_14 (by decide) ?_
  refine va_newa (atype := .boolean) (n := 400) (ty := .boolean) (N' := 400) (a0 := (400, .inl (fun _ => 0))) hx hb (hts (.arrayClass .boolean) (by decide +kernel)) rfl hK hP hD hS hA (fun _ => by rw [vp_cell_i]; rfl) (by decide) (by decide +kernel) (by decide +kernel) (Nat.le_of_ble_eq_true rfl) (Nat.le_of_ble_eq_true rfl) dX1_init_17 (fun q2 c9 H hK hP hD hS => ?_)
  have e9 : c9 = cZ := newZ hK
  rw [e9] at hP hD
  have hK := hK.sub (tys' := GT cI cZ cA) [0, 1, 2] rfl
  have hP : va_P (dC, dI) vwCl ([(h0, .inr (1, [.int 0, .int 0, .ref q1, .null, .null, .null, .null, .null])), (q1, .inl (cI, 400, .inl (fun _ => 0))), (q2, .inl (cZ, 400, .inl (fun _ => 0)))]) H := hP
  have hD : va_D A ([(h0, .inr (1, [.int 0, .int 0, .ref q1, .null, .null, .null, .null, .null])), (q1, .inl (cI, 400, .inl (fun _ => 0))), (q2, .inl (cZ, 400, .inl (fun _ => 0)))]) := hD
  refine va_putF (D := (dC, dI)) (ci := 1) (v := .ref q2) (ty := .array .boolean) (C := RX1) (T := TX1) (N := 8) hx hb hts hiw tyX1 tyX1_ok nmX1 hown hK hP hD hS 0 rfl rfl 3 (by decide) hf_13 (fun _ h9 => h9) rfl hin rfl (by decide +kernel) rfl rfl (Nat.le_of_ble_eq_true rfl) dX1_init_19 (fun H locs hP hD hS => ?_)
  have hP : va_P (dC, dI) vwCl ([(h0, .inr (1, [.int 0, .int 0, .ref q1, .ref q2, .null, .null, .null, .null])), (q1, .inl (cI, 400, .inl (fun _ => 0))), (q2, .inl (cZ, 400, .inl (fun _ => 0)))]) H := hP
  have hD : va_D A ([(h0, .inr (1, [.int 0, .int 0, .ref q1, .ref q2, .null, .null, .null, .null])), (q1, .inl (cI, 400, .inl (fun _ => 0))), (q2, .inl (cZ, 400, .inl (fun _ => 0)))]) := hD
  refine lv_aload_n hx hb dX1_init_22 rfl (lv_at hl 0 rfl) ?_
  refine lv_sipush (v := 400) hx hb dX1_init_23 (by decide) ?_
  refine va_newa (atype := .int) (n := 400) (ty := .int) (N' := 400) (a0 := (400, .inl (fun _ => 0))) hx hb (hts (.arrayClass .int) (by decide +kernel)) rfl hK hP hD hS hA (fun _ => by rw [vp_cell_i]; rfl) (by decide) (by decide +kernel) (by decide +kernel) (Nat.le_of_ble_eq_true rfl) (Nat.le_of_ble_eq_true rfl) dX1_init_26 (fun q3 c9 H hK hP hD hS => ?_)
  have e9 : c9 = cI := newI hK
  rw [e9] at hP hD
  have hK := hK.sub (tys' := GT cI cZ cA) [0, 1, 2] rfl
  have hP : va_P (dC, dI) vwCl ([(h0, .inr (1, [.int 0, .int 0, .ref q1, .ref q2, .null, .null, .null, .null])), (q1, .inl (cI, 400, .inl (fun _ => 0))), (q2, .inl (cZ, 400, .inl (fun _ => 0))), (q3, .inl (cI, 400, .inl (fun _ => 0)))]) H := hP
  have hD : va_D A ([(h0, .inr (1, [.int 0, .int 0, .ref q1, .ref q2, .null, .null, .null, .null])), (q1, .inl (cI, 400, .inl (fun _ => 0))), (q2, .inl (cZ, 400, .inl (fun _ => 0))), (q3, .inl (cI, 400, .inl (fun _ => 0)))]) := hD
  refine va_putF (D := (dC, dI)) (ci := 1) (v := .ref q3) (ty := .array .int) (C := RX1) (T := TX1) (N := 8) hx hb hts hiw tyX1 tyX1_ok nmX1 hown hK hP hD hS 0 rfl rfl 4 (by decide) hf_17 (fun _ h9 => h9) rfl hin rfl (by decide +kernel) rfl rfl (Nat.le_of_ble_eq_true rfl) dX1_init_28 (fun H locs hP hD hS => ?_)
  have hP : va_P (dC, dI) vwCl ([(h0, .inr (1, [.int 0, .int 0, .ref q1, .ref q2, .ref q3, .null, .null, .null])), (q1, .inl (cI, 400, .inl (fun _ => 0))), (q2, .inl (cZ, 400, .inl (fun _ => 0))), (q3, .inl (cI, 400, .inl (fun _ => 0)))]) H := hP
  have hD : va_D A ([(h0, .inr (1, [.int 0, .int 0, .ref q1, .ref q2, .ref q3, .null, .null, .null])), (q1, .inl (cI, 400, .inl (fun _ => 0))), (q2, .inl (cZ, 400, .inl (fun _ => 0))), (q3, .inl (cI, 400, .inl (fun _ => 0)))]) := hD
  refine lv_aload_n hx hb dX1_init_31 rfl (lv_at hl 0 rfl) ?_
  refine lv_sipush (v := 2400) hx hb dX1_init_32 (by decide) ?_
  refine va_newa (atype := .int) (n := 2400) (ty := .int) (N' := 2400) (a0 := (2400, .inl (fun _ => 0))) hx hb (hts (.arrayClass .int) (by decide +kernel)) rfl hK hP hD hS hA (fun _ => by rw [vp_cell_i]; rfl) (by decide) (by decide +kernel) (by decide +kernel) (Nat.le_of_ble_eq_true rfl) (Nat.le_of_ble_eq_true rfl) dX1_init_35 (fun q4 c9 H hK hP hD hS => ?_)
  have e9 : c9 = cI := newI hK
  rw [e9] at hP hD
  have hK := hK.sub (tys' := GT cI cZ cA) [0, 1, 2] rfl
  have hP : va_P (dC, dI) vwCl ([(h0, .inr (1, [.int 0, .int 0, .ref q1, .ref q2, .ref q3, .null, .null, .null])), (q1, .inl (cI, 400, .inl (fun _ => 0))), (q2, .inl (cZ, 400, .inl (fun _ => 0))), (q3, .inl (cI, 400, .inl (fun _ => 0))), (q4, .inl (cI, 2400, .inl (fun _ => 0)))]) H := hP
  have hD : va_D A ([(h0, .inr (1, [.int 0, .int 0, .ref q1, .ref q2, .ref q3, .null, .null, .null])), (q1, .inl (cI, 400, .inl (fun _ => 0))), (q2, .inl (cZ, 400, .inl (fun _ => 0))), (q3, .inl (cI, 400, .inl (fun _ => 0))), (q4, .inl (cI, 2400, .inl (fun _ => 0)))]) := hD
  refine va_putF (D := (dC, dI)) (ci := 1) (v := .ref q4) (ty := .array .int) (C := RX1) (T := TX1) (N := 8) hx hb hts hiw tyX1 tyX1_ok nmX1 hown hK hP hD hS 0 rfl rfl 5 (by decide) hf_20 (fun _ h9 => h9) rfl hin rfl (by decide +kernel) rfl rfl (Nat.le_of_ble_eq_true rfl) dX1_init_37 (fun H locs hP hD hS => ?_)
  have hP : va_P (dC, dI) vwCl ([(h0, .inr (1, [.int 0, .int 0, .ref q1, .ref q2, .ref q3, .ref q4, .null, .null])), (q1, .inl (cI, 400, .inl (fun _ => 0))), (q2, .inl (cZ, 400, .inl (fun _ => 0))), (q3, .inl (cI, 400, .inl (fun _ => 0))), (q4, .inl (cI, 2400, .inl (fun _ => 0)))]) H := hP
  have hD : va_D A ([(h0, .inr (1, [.int 0, .int 0, .ref q1, .ref q2, .ref q3, .ref q4, .null, .null])), (q1, .inl (cI, 400, .inl (fun _ => 0))), (q2, .inl (cZ, 400, .inl (fun _ => 0))), (q3, .inl (cI, 400, .inl (fun _ => 0))), (q4, .inl (cI, 2400, .inl (fun _ => 0)))]) := hD
  refine lv_aload_n hx hb dX1_init_40 rfl (lv_at hl 0 rfl) ?_
  refine lv_sipush (v := 3200) hx hb dX1_init_41 (by decide) ?_
  refine va_newa (atype := .int) (n := 3200) (ty := .int) (N' := 3200) (a0 := (3200, .inl (fun _ => 0))) hx hb (hts (.arrayClass .int) (by decide +kernel)) rfl hK hP hD hS hA (fun _ => by rw [vp_cell_i]; rfl) (by decide) (by decide +kernel) (by decide +kernel) (Nat.le_of_ble_eq_true rfl) (Nat.le_of_ble_eq_true rfl) dX1_init_44 (fun q5 c9 H hK hP hD hS => ?_)
  have e9 : c9 = cI := newI hK
  rw [e9] at hP hD
  have hK := hK.sub (tys' := GT cI cZ cA) [0, 1, 2] rfl
  have hP : va_P (dC, dI) vwCl ([(h0, .inr (1, [.int 0, .int 0, .ref q1, .ref q2, .ref q3, .ref q4, .null, .null])), (q1, .inl (cI, 400, .inl (fun _ => 0))), (q2, .inl (cZ, 400, .inl (fun _ => 0))), (q3, .inl (cI, 400, .inl (fun _ => 0))), (q4, .inl (cI, 2400, .inl (fun _ => 0))), (q5, .inl (cI, 3200, .inl (fun _ => 0)))]) H := hP
  have hD : va_D A ([(h0, .inr (1, [.int 0, .int 0, .ref q1, .ref q2, .ref q3, .ref q4, .null, .null])), (q1, .inl (cI, 400, .inl (fun _ => 0))), (q2, .inl (cZ, 400, .inl (fun _ => 0))), (q3, .inl (cI, 400, .inl (fun _ => 0))), (q4, .inl (cI, 2400, .inl (fun _ => 0))), (q5, .inl (cI, 3200, .inl (fun _ => 0)))]) := hD
  refine va_putF (D := (dC, dI)) (ci := 1) (v := .ref q5) (ty := .array .int) (C := RX1) (T := TX1) (N := 8) hx hb hts hiw tyX1 tyX1_ok nmX1 hown hK hP hD hS 0 rfl rfl 6 (by decide) hf_23 (fun _ h9 => h9) rfl hin rfl (by decide +kernel) rfl rfl (Nat.le_of_ble_eq_true rfl) dX1_init_46 (fun H locs hP hD hS => ?_)
  have hP : va_P (dC, dI) vwCl ([(h0, .inr (1, [.int 0, .int 0, .ref q1, .ref q2, .ref q3, .ref q4, .ref q5, .null])), (q1, .inl (cI, 400, .inl (fun _ => 0))), (q2, .inl (cZ, 400, .inl (fun _ => 0))), (q3, .inl (cI, 400, .inl (fun _ => 0))), (q4, .inl (cI, 2400, .inl (fun _ => 0))), (q5, .inl (cI, 3200, .inl (fun _ => 0)))]) H := hP
  have hD : va_D A ([(h0, .inr (1, [.int 0, .int 0, .ref q1, .ref q2, .ref q3, .ref q4, .ref q5, .null])), (q1, .inl (cI, 400, .inl (fun _ => 0))), (q2, .inl (cZ, 400, .inl (fun _ => 0))), (q3, .inl (cI, 400, .inl (fun _ => 0))), (q4, .inl (cI, 2400, .inl (fun _ => 0))), (q5, .inl (cI, 3200, .inl (fun _ => 0)))]) := hD
  refine lv_aload_n hx hb dX1_init_49 rfl (lv_at hl 0 rfl) ?_
  refine lv_sipush (v := 400) hx hb dX1_init_50 (by decide) ?_
  refine va_newa (atype := .int) (n := 400) (ty := .int) (N' := 400) (a0 := (400, .inl (fun _ => 0))) hx hb (hts (.arrayClass .int) (by decide +kernel)) rfl hK hP hD hS hA (fun _ => by rw [vp_cell_i]; rfl) (by decide) (by decide +kernel) (by decide +kernel) (Nat.le_of_ble_eq_true rfl) (Nat.le_of_ble_eq_true rfl) dX1_init_53 (fun q6 c9 H hK hP hD hS => ?_)
  have e9 : c9 = cI := newI hK
  rw [e9] at hP hD
  have hK := hK.sub (tys' := GT cI cZ cA) [0, 1, 2] rfl
  have hP : va_P (dC, dI) vwCl ([(h0, .inr (1, [.int 0, .int 0, .ref q1, .ref q2, .ref q3, .ref q4, .ref q5, .null])), (q1, .inl (cI, 400, .inl (fun _ => 0))), (q2, .inl (cZ, 400, .inl (fun _ => 0))), (q3, .inl (cI, 400, .inl (fun _ => 0))), (q4, .inl (cI, 2400, .inl (fun _ => 0))), (q5, .inl (cI, 3200, .inl (fun _ => 0))), (q6, .inl (cI, 400, .inl (fun _ => 0)))]) H := hP
  have hD : va_D A ([(h0, .inr (1, [.int 0, .int 0, .ref q1, .ref q2, .ref q3, .ref q4, .ref q5, .null])), (q1, .inl (cI, 400, .inl (fun _ => 0))), (q2, .inl (cZ, 400, .inl (fun _ => 0))), (q3, .inl (cI, 400, .inl (fun _ => 0))), (q4, .inl (cI, 2400, .inl (fun _ => 0))), (q5, .inl (cI, 3200, .inl (fun _ => 0))), (q6, .inl (cI, 400, .inl (fun _ => 0)))]) := hD
  refine va_putF (D := (dC, dI)) (ci := 1) (v := .ref q6) (ty := .array .int) (C := RX1) (T := TX1) (N := 8) hx hb hts hiw tyX1 tyX1_ok nmX1 hown hK hP hD hS 0 rfl rfl 7 (by decide) hf_26 (fun _ h9 => h9) rfl hin rfl (by decide +kernel) rfl rfl (Nat.le_of_ble_eq_true rfl) dX1_init_55 (fun H locs hP hD hS => ?_)
  have hP : va_P (dC, dI) vwCl ([(h0, .inr (1, [.int 0, .int 0, .ref q1, .ref q2, .ref q3, .ref q4, .ref q5, .ref q6])), (q1, .inl (cI, 400, .inl (fun _ => 0))), (q2, .inl (cZ, 400, .inl (fun _ => 0))), (q3, .inl (cI, 400, .inl (fun _ => 0))), (q4, .inl (cI, 2400, .inl (fun _ => 0))), (q5, .inl (cI, 3200, .inl (fun _ => 0))), (q6, .inl (cI, 400, .inl (fun _ => 0)))]) H := hP
  have hD : va_D A ([(h0, .inr (1, [.int 0, .int 0, .ref q1, .ref q2, .ref q3, .ref q4, .ref q5, .ref q6])), (q1, .inl (cI, 400, .inl (fun _ => 0))), (q2, .inl (cZ, 400, .inl (fun _ => 0))), (q3, .inl (cI, 400, .inl (fun _ => 0))), (q4, .inl (cI, 2400, .inl (fun _ => 0))), (q5, .inl (cI, 3200, .inl (fun _ => 0))), (q6, .inl (cI, 400, .inl (fun _ => 0)))]) := hD
  refine W.widen (k := 6) (n := 7200) (Nat.le_of_ble_eq_true rfl) (Nat.le_of_ble_eq_true rfl) ?_
  exact W.vret hx hb hr (fun t ht hW => ⟨⟨fun k => match k with | 0 => h0 | 1 => q1 | 2 => q2 | 3 => q3 | 4 => q4 | 5 => q5 | _ => q6, rfl, rfl, by rw [ht]; exact hP, va_K.moved hW.alike hK, hD⟩, hS.F ht⟩) hS.2.2 dX1_init_58
