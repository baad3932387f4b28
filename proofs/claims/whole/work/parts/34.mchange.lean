theorem upd_same {cf : Nat → Nat} {k : Nat} (h : cf k = 0) : upd (fun i => nI (cf i)) k 0 = fun i => nI (cf i) := by
  funext i
  unfold upd
  by_cases e : i = k
  · rw [if_pos e, e, h]; rfl
  · rw [if_neg e]
set_option maxHeartbeats 4000000 in
set_option maxRecDepth 100000 in
/-- node -/
theorem kX1_node (l : Launch) (dC : Nat → ClassId) (dI : Nat → Nat → Nat) (cI cZ cA : ClassId) (a : Nat → Nat) (sz : Nat) (th : Nat) (n : Nat) (wv : Nat → Int32) (lo : Nat → Int32) (cf : Nat → Nat) (tf : Nat → Nat) (vs : Nat → Int32) (nr : Nat → Nat) (v b : Int32) (hn4 : n < 400) (hv : iw v = 1) (hz : b = 0 ∨ b = 1) (hc0 : cf n = 0) : Met l yX1_node wsX1_node ({ frames := 1, cells := 0, slots := 0, locals := 20 }) (va_Pc [.ref (a 0), .int v, .int b] (WP dC dI (GT cI cZ cA) (MW cI cZ a th n wv lo cf tf vs nr) sz)) (va_Qi (fun r (_ : Unit) => r = nI n) (fun (_ : Unit) => WQ dC dI (GT cI cZ cA) (va_A (MW cI cZ a th n wv lo cf tf vs nr) sz) (MW cI cZ a 0 (n + 1) (upd wv n v) (upd lo n b) cf tf vs nr)) (va_A (MW cI cZ a th n wv lo cf tf vs nr) sz)) 0 0 (va_A (MW cI cZ a th n wv lo cf tf vs nr) sz) := by
  refine Met.ofW (cc := cX1_node) (maxL := 3) (ret := (some .int)) (by decide) rfl ?_
  intro p e s m args below meth c s₁ B hml hv
  obtain ⟨rfl, hsz, hP, hK, hD0⟩ := hv
  have hx := B.exec
  have hb := B.bytes
  have hr := B.returns
  have hts := atoms_spec (ws := wsX1_node) B.pre
  have hown : s.vm.findClass RX1 = some m.cls := findClass_of_methodNamed B.named
  have hlocks := B.notSynchronized
  have hf_33 := hts (.fieldLink RX1 33 "GraphSearchModel" "nodes" "I") (by decide +kernel)
  have hf_29 := hts (.fieldLink RX1 29 "GraphSearchModel" "thrown" "I") (by decide +kernel)
  have hf_7 := hts (.fieldLink RX1 7 "GraphSearchModel" "worth" "[I") (by decide +kernel)
  have hf_13 := hts (.fieldLink RX1 13 "GraphSearchModel" "lost" "[Z") (by decide +kernel)
  have hf_17 := hts (.fieldLink RX1 17 "GraphSearchModel" "many" "[I") (by decide +kernel)
  have hiw : ∀ w ∈ wsX10, w ∈ wsX1_node := by decide +kernel
  subst hsz
  have hD := hD0.self (sz := s.heap.size)
  generalize hAe : va_A (MW cI cZ a th n wv lo cf tf vs nr) s.heap.size = A at hD ⊢
  have hA : ∀ q : Nat, s.heap.size ≤ q → A q := fun q h => by rw [← hAe]; exact Or.inr h
  have hS : va_S A s.heap s.heap [] := va_S.rf
  have hP : va_P (dC, dI) vwCl (MW cI cZ a th n wv lo cf tf vs nr) s.heap := hP
  have hl := lv_entry ([.ref (a 0), .int v, .int b]) (n := 3) (Nat.le_of_ble_eq_true rfl)
  rw [lg_entry_eq]
  generalize (lg_sl ([.ref (a 0), .int v, .int b]) ++ List.replicate (3 - (lg_sl ([.ref (a 0), .int v, .int b])).length) Slot.unset).toArray = ls at hl ⊢
  have hl : lv_has ls 3 [(0, .ref (a 0)), (1, .int v), (2, .int b)] := hl
  refine lv_aload_n hx hb dX1_node_0 rfl (lv_at hl 0 rfl) ?_
  refine lv_iload_n hx hb dX1_node_1 rfl (lv_at hl 1 rfl) ?_
  refine W.callR (r := iw v) (W.runS (As := [.int v]) (rest := [.ref (a 0)]) ⟨hx, hb, hml, hown, hts⟩ (kX1_isWorth l v) (va_cwS 1 hts gX1_node_X1_isWorth rfl rfl rfl (by decide +kernel) ⟨Nat.le_of_ble_eq_true rfl, Nat.le_of_ble_eq_true rfl⟩) ⟨blindT, fun _ _ _ => ⟨rfl, trivial⟩⟩ rfl rfl hl.1 rfl (lv_room (Nat.le_of_ble_eq_true rfl)) dX1_node_2 ⟨Nat.zero_le _, Nat.zero_le _⟩) ?_
  refine W.eq (g2 := F0 m 5 ls [.int (iw v), .ref (a 0)]) rfl ?_
  refine lv_if_ne (tgt := 12) hx hb dX1_node_5 (by decide) (fun h5 => ?_) (fun h5 => absurd h5 (by rw [hv]; decide))
  refine lv_aload_n hx hb dX1_node_12 rfl (lv_at hl 0 rfl) ?_
  refine va_get (D := (dC, dI)) (ci := 1) (v := .int (nI n)) (C := RX1) (T := TX1) (N := 8) hx hb hts hiw hown hK hP 0 rfl rfl 1 (by decide) hf_33 (fun _ h9 => h9) rfl dX1_node_13 ?_
  refine lv_sipush (v := 400) hx hb dX1_node_16 (by decide) ?_
  refine lv_icmp_ne (tgt := 26) hx hb dX1_node_19 (by decide) (fun h19 => ?_) (fun h19 => absurd h19 (fun q => by have := (nI_eq (b := 400) (by omega) (by decide)).mp q; omega))
  refine lv_iconst (v := 0) hx hb dX1_node_26 (by decide) ?_
  refine ga_is (y := nI 0) (rfl) ?_
  refine va_put (D := (dC, dI)) (ci := 1) (v := .int (nI 0)) (ty := .int) (C := RX1) (T := TX1) (N := 8) hx hb hts hiw tyX1 tyX1_ok nmX1 hown hK hP hD hS 0 rfl rfl 0 (by decide) hf_29 (fun _ h9 => h9) rfl (by decide +kernel) rfl rfl (Nat.le_of_ble_eq_true rfl) dX1_node_27 (fun H locs hP hD hS => ?_)
  have hP : va_P (dC, dI) vwCl (MW cI cZ a 0 n wv lo cf tf vs nr) H := hP
  have hD : va_D A (MW cI cZ a 0 n wv lo cf tf vs nr) := hD
  refine lv_aload_n hx hb dX1_node_30 rfl (lv_at hl 0 rfl) ?_
  refine va_get (D := (dC, dI)) (ci := 1) (v := .int (nI 0)) (C := RX1) (T := TX1) (N := 8) hx hb hts hiw hown hK hP 0 rfl rfl 0 (by decide) hf_29 (fun _ h9 => h9) rfl dX1_node_31 ?_
  refine lv_if_le (tgt := 39) hx hb dX1_node_34 (by decide) (fun h34 => ?_) (fun h34 => absurd (show nI 0 ≤ 0 from Int32.le_refl _) h34)
  refine lv_aload_n hx hb dX1_node_39 rfl (lv_at hl 0 rfl) ?_
  refine va_get (D := (dC, dI)) (ci := 1) (v := .ref (a 1)) (C := RX1) (T := TX1) (N := 8) hx hb hts hiw hown hK hP 0 rfl rfl 2 (by decide) hf_7 (fun _ h9 => h9) rfl dX1_node_40 ?_
  refine lv_aload_n hx hb dX1_node_43 rfl (lv_at hl 0 rfl) ?_
  refine va_get (D := (dC, dI)) (ci := 1) (v := .int (nI n)) (C := RX1) (T := TX1) (N := 8) hx hb hts hiw hown hK hP 0 rfl rfl 1 (by decide) hf_33 (fun _ h9 => h9) rfl dX1_node_44 ?_
  refine lv_iload_n hx hb dX1_node_47 rfl (lv_at hl 1 rfl) ?_
  refine ga_iast hx hb hK hP hD hS 1 0 rfl rfl n (by omega) (by decide) rfl (ws' := MW cI cZ a 0 n (upd wv n v) lo cf tf vs nr) rfl dX1_node_48 (fun H locs hP hD hS => ?_)
  refine lv_aload_n hx hb dX1_node_49 rfl (lv_at hl 0 rfl) ?_
  refine va_get (D := (dC, dI)) (ci := 1) (v := .ref (a 2)) (C := RX1) (T := TX1) (N := 8) hx hb hts hiw hown hK hP 0 rfl rfl 3 (by decide) hf_13 (fun _ h9 => h9) rfl dX1_node_50 ?_
  refine lv_aload_n hx hb dX1_node_53 rfl (lv_at hl 0 rfl) ?_
  refine va_get (D := (dC, dI)) (ci := 1) (v := .int (nI n)) (C := RX1) (T := TX1) (N := 8) hx hb hts hiw hown hK hP 0 rfl rfl 1 (by decide) hf_33 (fun _ h9 => h9) rfl dX1_node_54 ?_
  refine lv_iload_n hx hb dX1_node_57 rfl (lv_at hl 2 rfl) ?_
  refine ga_zast hx hb hK hP hD hS 2 1 rfl rfl n hz (by omega) (by decide) rfl (ws' := MW cI cZ a 0 n (upd wv n v) (upd lo n b) cf tf vs nr) rfl dX1_node_58 (fun H locs hP hD hS => ?_)
  refine lv_aload_n hx hb dX1_node_59 rfl (lv_at hl 0 rfl) ?_
  refine va_get (D := (dC, dI)) (ci := 1) (v := .ref (a 3)) (C := RX1) (T := TX1) (N := 8) hx hb hts hiw hown hK hP 0 rfl rfl 4 (by decide) hf_17 (fun _ h9 => h9) rfl dX1_node_60 ?_
  refine lv_aload_n hx hb dX1_node_63 rfl (lv_at hl 0 rfl) ?_
  refine va_get (D := (dC, dI)) (ci := 1) (v := .int (nI n)) (C := RX1) (T := TX1) (N := 8) hx hb hts hiw hown hK hP 0 rfl rfl 1 (by decide) hf_33 (fun _ h9 => h9) rfl dX1_node_64 ?_
  refine lv_iconst (v := 0) hx hb dX1_node_67 (by decide) ?_
  refine ga_iast hx hb hK hP hD hS 3 0 rfl rfl n (by omega) (by decide) (upd_same hc0) (ws' := MW cI cZ a 0 n (upd wv n v) (upd lo n b) cf tf vs nr) rfl dX1_node_68 (fun H locs hP hD hS => ?_)
  refine lv_aload_n hx hb dX1_node_69 rfl (lv_at hl 0 rfl) ?_
  refine lv_dup hx hb dX1_node_70 rfl ?_
  refine va_get (D := (dC, dI)) (ci := 1) (v := .int (nI n)) (C := RX1) (T := TX1) (N := 8) hx hb hts hiw hown hK hP 0 rfl rfl 1 (by decide) hf_33 (fun _ h9 => h9) rfl dX1_node_71 ?_
  refine lv_iconst (v := 1) hx hb dX1_node_74 (by decide) ?_
  refine lv_iadd hx hb dX1_node_75 ?_
  refine ga_is (y := nI (n + 1)) (nI_1 n) ?_
  refine va_put (D := (dC, dI)) (ci := 1) (v := .int (nI (n + 1))) (ty := .int) (C := RX1) (T := TX1) (N := 8) hx hb hts hiw tyX1 tyX1_ok nmX1 hown hK hP hD hS 0 rfl rfl 1 (by decide) hf_33 (fun _ h9 => h9) rfl (by decide +kernel) rfl rfl (Nat.le_of_ble_eq_true rfl) dX1_node_76 (fun H locs hP hD hS => ?_)
  have hP : va_P (dC, dI) vwCl (MW cI cZ a 0 (n + 1) (upd wv n v) (upd lo n b) cf tf vs nr) H := hP
  have hD : va_D A (MW cI cZ a 0 (n + 1) (upd wv n v) (upd lo n b) cf tf vs nr) := hD
  refine lv_aload_n hx hb dX1_node_79 rfl (lv_at hl 0 rfl) ?_
  refine va_get (D := (dC, dI)) (ci := 1) (v := .int (nI (n + 1))) (C := RX1) (T := TX1) (N := 8) hx hb hts hiw hown hK hP 0 rfl rfl 1 (by decide) hf_33 (fun _ h9 => h9) rfl dX1_node_80 ?_
  refine lv_iconst (v := 1) hx hb dX1_node_83 (by decide) ?_
  refine lv_isub hx hb dX1_node_84 ?_
  refine ga_is (y := nI n) (nI_pred n) ?_
  exact W.iret (v := (nI n)) hx hb hr (fun t ht hW => ⟨⟨(nI n), (), rfl, rfl, by rw [ht]; exact hP, va_K.moved hW.alike hK, hD⟩, hS.F ht⟩) hS.2.2 dX1_node_85
set_option maxHeartbeats 4000000 in
set_option maxRecDepth 100000 in
/-- node, a wrong worth -/
theorem kX1_node_w (l : Launch) (dC : Nat → ClassId) (dI : Nat → Nat → Nat) (cI cZ cA : ClassId) (a : Nat → Nat) (sz : Nat) (th : Nat) (n : Nat) (wv : Nat → Int32) (lo : Nat → Int32) (cf : Nat → Nat) (tf : Nat → Nat) (vs : Nat → Int32) (nr : Nat → Nat) (v b : Int32) (hv : iw v = 0) : Met l yX1_node wsX1_node ({ frames := 1, cells := 0, slots := 0, locals := 20 }) (va_Pc [.ref (a 0), .int v, .int b] (WP dC dI (GT cI cZ cA) (MW cI cZ a th n wv lo cf tf vs nr) sz)) (va_Qi (fun r (_ : Unit) => r = 0) (fun (_ : Unit) => WQ dC dI (GT cI cZ cA) (va_A (MW cI cZ a th n wv lo cf tf vs nr) sz) (MW cI cZ a 1 n wv lo cf tf vs nr)) (va_A (MW cI cZ a th n wv lo cf tf vs nr) sz)) 0 0 (va_A (MW cI cZ a th n wv lo cf tf vs nr) sz) := by
  refine Met.ofW (cc := cX1_node) (maxL := 3) (ret := (some .int)) (by decide) rfl ?_
  intro p e s m args below meth c s₁ B hml hv
  obtain ⟨rfl, hsz, hP, hK, hD0⟩ := hv
  have hx := B.exec
  have hb := B.bytes
  have hr := B.returns
  have hts := atoms_spec (ws := wsX1_node) B.pre
  have hown : s.vm.findClass RX1 = some m.cls := findClass_of_methodNamed B.named
  have hlocks := B.notSynchronized
  have hf_33 := hts (.fieldLink RX1 33 "GraphSearchModel" "nodes" "I") (by decide +kernel)
  have hf_29 := hts (.fieldLink RX1 29 "GraphSearchModel" "thrown" "I") (by decide +kernel)
  have hf_7 := hts (.fieldLink RX1 7 "GraphSearchModel" "worth" "[I") (by decide +kernel)
  have hf_13 := hts (.fieldLink RX1 13 "GraphSearchModel" "lost" "[Z") (by decide +kernel)
  have hf_17 := hts (.fieldLink RX1 17 "GraphSearchModel" "many" "[I") (by decide +kernel)
  have hiw : ∀ w ∈ wsX10, w ∈ wsX1_node := by decide +kernel
  subst hsz
  have hD := hD0.self (sz := s.heap.size)
  generalize hAe : va_A (MW cI cZ a th n wv lo cf tf vs nr) s.heap.size = A at hD ⊢
  have hA : ∀ q : Nat, s.heap.size ≤ q → A q := fun q h => by rw [← hAe]; exact Or.inr h
  have hS : va_S A s.heap s.heap [] := va_S.rf
  have hP : va_P (dC, dI) vwCl (MW cI cZ a th n wv lo cf tf vs nr) s.heap := hP
  have hl := lv_entry ([.ref (a 0), .int v, .int b]) (n := 3) (Nat.le_of_ble_eq_true rfl)
  rw [lg_entry_eq]
  generalize (lg_sl ([.ref (a 0), .int v, .int b]) ++ List.replicate (3 - (lg_sl ([.ref (a 0), .int v, .int b])).length) Slot.unset).toArray = ls at hl ⊢
  have hl : lv_has ls 3 [(0, .ref (a 0)), (1, .int v), (2, .int b)] := hl
  refine lv_aload_n hx hb dX1_node_0 rfl (lv_at hl 0 rfl) ?_
  refine lv_iload_n hx hb dX1_node_1 rfl (lv_at hl 1 rfl) ?_
  refine W.callR (r := iw v) (W.runS (As := [.int v]) (rest := [.ref (a 0)]) ⟨hx, hb, hml, hown, hts⟩ (kX1_isWorth l v) (va_cwS 1 hts gX1_node_X1_isWorth rfl rfl rfl (by decide +kernel) ⟨Nat.le_of_ble_eq_true rfl, Nat.le_of_ble_eq_true rfl⟩) ⟨blindT, fun _ _ _ => ⟨rfl, trivial⟩⟩ rfl rfl hl.1 rfl (lv_room (Nat.le_of_ble_eq_true rfl)) dX1_node_2 ⟨Nat.zero_le _, Nat.zero_le _⟩) ?_
  refine W.eq (g2 := F0 m 5 ls [.int (iw v), .ref (a 0)]) rfl ?_
  refine lv_if_ne (tgt := 12) hx hb dX1_node_5 (by decide) (fun h5 => absurd hv h5) (fun h5 => ?_)
  refine lv_iconst (v := 1) hx hb dX1_node_8 (by decide) ?_
  refine lv_goto (tgt := 27) hx hb dX1_node_9 (by decide) ?_
  refine ga_is (y := nI 1) (rfl) ?_
  refine va_put (D := (dC, dI)) (ci := 1) (v := .int (nI 1)) (ty := .int) (C := RX1) (T := TX1) (N := 8) hx hb hts hiw tyX1 tyX1_ok nmX1 hown hK hP hD hS 0 rfl rfl 0 (by decide) hf_29 (fun _ h9 => h9) rfl (by decide +kernel) rfl rfl (Nat.le_of_ble_eq_true rfl) dX1_node_27 (fun H locs hP hD hS => ?_)
  have hP : va_P (dC, dI) vwCl (MW cI cZ a 1 n wv lo cf tf vs nr) H := hP
  have hD : va_D A (MW cI cZ a 1 n wv lo cf tf vs nr) := hD
  refine lv_aload_n hx hb dX1_node_30 rfl (lv_at hl 0 rfl) ?_
  refine va_get (D := (dC, dI)) (ci := 1) (v := .int (nI 1)) (C := RX1) (T := TX1) (N := 8) hx hb hts hiw hown hK hP 0 rfl rfl 0 (by decide) hf_29 (fun _ h9 => h9) rfl dX1_node_31 ?_
  refine lv_if_le (tgt := 39) hx hb dX1_node_34 (by decide) (fun h34 => absurd h34 (nI_nle (by decide) (by decide))) (fun h34 => ?_)
  refine lv_iconst (v := 0) hx hb dX1_node_37 (by decide) ?_
  exact W.iret (v := 0) hx hb hr (fun t ht hW => ⟨⟨0, (), rfl, rfl, by rw [ht]; exact hP, va_K.moved hW.alike hK, hD⟩, hS.F ht⟩) hS.2.2 dX1_node_38
set_option maxHeartbeats 4000000 in
set_option maxRecDepth 100000 in
/-- node, full -/
theorem kX1_node_f (l : Launch) (dC : Nat → ClassId) (dI : Nat → Nat → Nat) (cI cZ cA : ClassId) (a : Nat → Nat) (sz : Nat) (th : Nat) (n : Nat) (wv : Nat → Int32) (lo : Nat → Int32) (cf : Nat → Nat) (tf : Nat → Nat) (vs : Nat → Int32) (nr : Nat → Nat) (v b : Int32) (hv : iw v = 1) (hn4 : n = 400) : Met l yX1_node wsX1_node ({ frames := 1, cells := 0, slots := 0, locals := 20 }) (va_Pc [.ref (a 0), .int v, .int b] (WP dC dI (GT cI cZ cA) (MW cI cZ a th n wv lo cf tf vs nr) sz)) (va_Qi (fun r (_ : Unit) => r = 0) (fun (_ : Unit) => WQ dC dI (GT cI cZ cA) (va_A (MW cI cZ a th n wv lo cf tf vs nr) sz) (MW cI cZ a 2 n wv lo cf tf vs nr)) (va_A (MW cI cZ a th n wv lo cf tf vs nr) sz)) 0 0 (va_A (MW cI cZ a th n wv lo cf tf vs nr) sz) := by
  refine Met.ofW (cc := cX1_node) (maxL := 3) (ret := (some .int)) (by decide) rfl ?_
  intro p e s m args below meth c s₁ B hml hv
  obtain ⟨rfl, hsz, hP, hK, hD0⟩ := hv
  have hx := B.exec
  have hb := B.bytes
  have hr := B.returns
  have hts := atoms_spec (ws := wsX1_node) B.pre
  have hown : s.vm.findClass RX1 = some m.cls := findClass_of_methodNamed B.named
  have hlocks := B.notSynchronized
  have hf_33 := hts (.fieldLink RX1 33 "GraphSearchModel" "nodes" "I") (by decide +kernel)
  have hf_29 := hts (.fieldLink RX1 29 "GraphSearchModel" "thrown" "I") (by decide +kernel)
  have hf_7 := hts (.fieldLink RX1 7 "GraphSearchModel" "worth" "[I") (by decide +kernel)
  have hf_13 := hts (.fieldLink RX1 13 "GraphSearchModel" "lost" "[Z") (by decide +kernel)
  have hf_17 := hts (.fieldLink RX1 17 "GraphSearchModel" "many" "[I") (by decide +kernel)
  have hiw : ∀ w ∈ wsX10, w ∈ wsX1_node := by decide +kernel
  subst hsz
  have hD := hD0.self (sz := s.heap.size)
  generalize hAe : va_A (MW cI cZ a th n wv lo cf tf vs nr) s.heap.size = A at hD ⊢
  have hA : ∀ q : Nat, s.heap.size ≤ q → A q := fun q h => by rw [← hAe]; exact Or.inr h
  have hS : va_S A s.heap s.heap [] := va_S.rf
  have hP : va_P (dC, dI) vwCl (MW cI cZ a th n wv lo cf tf vs nr) s.heap := hP
  have hl := lv_entry ([.ref (a 0), .int v, .int b]) (n := 3) (Nat.le_of_ble_eq_true rfl)
  rw [lg_entry_eq]
  generalize (lg_sl ([.ref (a 0), .int v, .int b]) ++ List.replicate (3 - (lg_sl ([.ref (a 0), .int v, .int b])).length) Slot.unset).toArray = ls at hl ⊢
  have hl : lv_has ls 3 [(0, .ref (a 0)), (1, .int v), (2, .int b)] := hl
  refine lv_aload_n hx hb dX1_node_0 rfl (lv_at hl 0 rfl) ?_
  refine lv_iload_n hx hb dX1_node_1 rfl (lv_at hl 1 rfl) ?_
  refine W.callR (r := iw v) (W.runS (As := [.int v]) (rest := [.ref (a 0)]) ⟨hx, hb, hml, hown, hts⟩ (kX1_isWorth l v) (va_cwS 1 hts gX1_node_X1_isWorth rfl rfl rfl (by decide +kernel) ⟨Nat.le_of_ble_eq_true rfl, Nat.le_of_ble_eq_true rfl⟩) ⟨blindT, fun _ _ _ => ⟨rfl, trivial⟩⟩ rfl rfl hl.1 rfl (lv_room (Nat.le_of_ble_eq_true rfl)) dX1_node_2 ⟨Nat.zero_le _, Nat.zero_le _⟩) ?_
  refine W.eq (g2 := F0 m 5 ls [.int (iw v), .ref (a 0)]) rfl ?_
  refine lv_if_ne (tgt := 12) hx hb dX1_node_5 (by decide) (fun h5 => ?_) (fun h5 => absurd h5 (by rw [hv]; decide))
  refine lv_aload_n hx hb dX1_node_12 rfl (lv_at hl 0 rfl) ?_
  refine va_get (D := (dC, dI)) (ci := 1) (v := .int (nI n)) (C := RX1) (T := TX1) (N := 8) hx hb hts hiw hown hK hP 0 rfl rfl 1 (by decide) hf_33 (fun _ h9 => h9) rfl dX1_node_13 ?_
  refine lv_sipush (v := 400) hx hb dX1_node_16 (by decide) ?_
  refine lv_icmp_ne (tgt := 26) hx hb dX1_node_19 (by decide) (fun h19 => absurd (show nI n = 400 by rw [hn4]; rfl) h19) (fun h19 => ?_)
  refine lv_iconst (v := 2) hx hb dX1_node_22 (by decide) ?_
  refine lv_goto (tgt := 27) hx hb dX1_node_23 (by decide) ?_
  refine ga_is (y := nI 2) (rfl) ?_
  refine va_put (D := (dC, dI)) (ci := 1) (v := .int (nI 2)) (ty := .int) (C := RX1) (T := TX1) (N := 8) hx hb hts hiw tyX1 tyX1_ok nmX1 hown hK hP hD hS 0 rfl rfl 0 (by decide) hf_29 (fun _ h9 => h9) rfl (by decide +kernel) rfl rfl (Nat.le_of_ble_eq_true rfl) dX1_node_27 (fun H locs hP hD hS => ?_)
  have hP : va_P (dC, dI) vwCl (MW cI cZ a 2 n wv lo cf tf vs nr) H := hP
  have hD : va_D A (MW cI cZ a 2 n wv lo cf tf vs nr) := hD
  refine lv_aload_n hx hb dX1_node_30 rfl (lv_at hl 0 rfl) ?_
  refine va_get (D := (dC, dI)) (ci := 1) (v := .int (nI 2)) (C := RX1) (T := TX1) (N := 8) hx hb hts hiw hown hK hP 0 rfl rfl 0 (by decide) hf_29 (fun _ h9 => h9) rfl dX1_node_31 ?_
  refine lv_if_le (tgt := 39) hx hb dX1_node_34 (by decide) (fun h34 => absurd h34 (nI_nle (by decide) (by decide))) (fun h34 => ?_)
  refine lv_iconst (v := 0) hx hb dX1_node_37 (by decide) ?_
  exact W.iret (v := 0) hx hb hr (fun t ht hW => ⟨⟨0, (), rfl, rfl, by rw [ht]; exact hP, va_K.moved hW.alike hK, hD⟩, hS.F ht⟩) hS.2.2 dX1_node_38
set_option maxHeartbeats 4000000 in
set_option maxRecDepth 100000 in
/-- move -/
theorem kX1_move (l : Launch) (dC : Nat → ClassId) (dI : Nat → Nat → Nat) (cI cZ cA : ClassId) (a : Nat → Nat) (sz : Nat) (th : Nat) (n : Nat) (wv : Nat → Int32) (lo : Nat → Int32) (cf : Nat → Nat) (tf : Nat → Nat) (vs : Nat → Int32) (nr : Nat → Nat) (i j : Nat) (hn4 : n ≤ 400) (hi : i < n) (hj : j < n) (hc : cf i < 6) : Met l yX1_move wsX1_move ({ frames := 1, cells := 0, slots := 0, locals := 21 }) (va_Pc [.ref (a 0), .int (nI i), .int (nI j)] (WP dC dI (GT cI cZ cA) (MW cI cZ a th n wv lo cf tf vs nr) sz)) (va_Qi (fun r (_ : Unit) => r = nI (cf i)) (fun (_ : Unit) => WQ dC dI (GT cI cZ cA) (va_A (MW cI cZ a th n wv lo cf tf vs nr) sz) (MW cI cZ a 0 n wv lo (va_up cf i (cf i + 1)) (va_up tf (i * 6 + cf i) j) vs nr)) (va_A (MW cI cZ a th n wv lo cf tf vs nr) sz)) 0 0 (va_A (MW cI cZ a th n wv lo cf tf vs nr) sz) := by
  refine Met.ofW (cc := cX1_move) (maxL := 3) (ret := (some .int)) (by decide) rfl ?_
  intro p e s m args below meth c s₁ B hml hv
  obtain ⟨rfl, hsz, hP, hK, hD0⟩ := hv
  have hx := B.exec
  have hb := B.bytes
  have hr := B.returns
  have hts := atoms_spec (ws := wsX1_move) B.pre
  have hown : s.vm.findClass RX1 = some m.cls := findClass_of_methodNamed B.named
  have hlocks := B.notSynchronized
  have hf_29 := hts (.fieldLink RX1 29 "GraphSearchModel" "thrown" "I") (by decide +kernel)
  have hf_17 := hts (.fieldLink RX1 17 "GraphSearchModel" "many" "[I") (by decide +kernel)
  have hf_20 := hts (.fieldLink RX1 20 "GraphSearchModel" "to" "[I") (by decide +kernel)
  have hiw : ∀ w ∈ wsX10, w ∈ wsX1_move := by decide +kernel
  subst hsz
  have hD := hD0.self (sz := s.heap.size)
  generalize hAe : va_A (MW cI cZ a th n wv lo cf tf vs nr) s.heap.size = A at hD ⊢
  have hA : ∀ q : Nat, s.heap.size ≤ q → A q := fun q h => by rw [← hAe]; exact Or.inr h
  have hS : va_S A s.heap s.heap [] := va_S.rf
  have hP : va_P (dC, dI) vwCl (MW cI cZ a th n wv lo cf tf vs nr) s.heap := hP
  have hl := lv_entry ([.ref (a 0), .int (nI i), .int (nI j)]) (n := 3) (Nat.le_of_ble_eq_true rfl)
  rw [lg_entry_eq]
  generalize (lg_sl ([.ref (a 0), .int (nI i), .int (nI j)]) ++ List.replicate (3 - (lg_sl ([.ref (a 0), .int (nI i), .int (nI j)])).length) Slot.unset).toArray = ls at hl ⊢
  have hl : lv_has ls 3 [(0, .ref (a 0)), (1, .int (nI i)), (2, .int (nI j))] := hl
  refine lv_aload_n hx hb dX1_move_0 rfl (lv_at hl 0 rfl) ?_
  refine lv_aload_n hx hb dX1_move_1 rfl (lv_at hl 0 rfl) ?_
  refine lv_iload_n hx hb dX1_move_2 rfl (lv_at hl 1 rfl) ?_
  refine W.callR (r := isn (nI i) n) (W.runV (As := [.int (nI i)]) (rest := [.ref (a 0)]) ⟨hx, hb, hml, hown, hts⟩ (kX1_isNode l dC dI cI cZ cA a th n wv lo cf tf vs nr (nI i)) (cwV 1 hts gX1_move_X1_isNode rfl rfl rfl (by decide +kernel) ⟨Nat.le_of_ble_eq_true rfl, Nat.le_of_ble_eq_true rfl⟩) ⟨blindR, va_recv hK hP (ci := 1) (q0 := 0) rfl rfl, preR hP hK⟩ rfl rfl hl.1 rfl (lv_room (Nat.le_of_ble_eq_true rfl)) dX1_move_3 ⟨Nat.zero_le _, Nat.zero_le _⟩) ?_
  refine W.eq (g2 := F0 m 6 ls [.int (isn (nI i) n), .ref (a 0)]) rfl ?_
  refine lv_if_eq (tgt := 21) hx hb dX1_move_6 (by decide) (fun h6 => absurd h6 (by rw [isn_1 hi (by omega)]; decide)) (fun h6 => ?_)
  refine lv_aload_n hx hb dX1_move_9 rfl (lv_at hl 0 rfl) ?_
  refine lv_iload_n hx hb dX1_move_10 rfl (lv_at hl 2 rfl) ?_
  refine W.callR (r := isn (nI j) n) (W.runV (As := [.int (nI j)]) (rest := [.ref (a 0)]) ⟨hx, hb, hml, hown, hts⟩ (kX1_isNode l dC dI cI cZ cA a th n wv lo cf tf vs nr (nI j)) (cwV 1 hts gX1_move_X1_isNode rfl rfl rfl (by decide +kernel) ⟨Nat.le_of_ble_eq_true rfl, Nat.le_of_ble_eq_true rfl⟩) ⟨blindR, va_recv hK hP (ci := 1) (q0 := 0) rfl rfl, preR hP hK⟩ rfl rfl hl.1 rfl (lv_room (Nat.le_of_ble_eq_true rfl)) dX1_move_11 ⟨Nat.zero_le _, Nat.zero_le _⟩) ?_
  refine W.eq (g2 := F0 m 14 ls [.int (isn (nI j) n), .ref (a 0)]) rfl ?_
  refine lv_if_eq (tgt := 21) hx hb dX1_move_14 (by decide) (fun h14 => absurd h14 (by rw [isn_1 hj (by omega)]; decide)) (fun h14 => ?_)
  refine lv_iconst (v := 0) hx hb dX1_move_17 (by decide) ?_
  refine lv_goto (tgt := 22) hx hb dX1_move_18 (by decide) ?_
  refine ga_is (y := nI 0) (rfl) ?_
  refine va_put (D := (dC, dI)) (ci := 1) (v := .int (nI 0)) (ty := .int) (C := RX1) (T := TX1) (N := 8) hx hb hts hiw tyX1 tyX1_ok nmX1 hown hK hP hD hS 0 rfl rfl 0 (by decide) hf_29 (fun _ h9 => h9) rfl (by decide +kernel) rfl rfl (Nat.le_of_ble_eq_true rfl) dX1_move_22 (fun H locs hP hD hS => ?_)
  have hP : va_P (dC, dI) vwCl (MW cI cZ a 0 n wv lo cf tf vs nr) H := hP
  have hD : va_D A (MW cI cZ a 0 n wv lo cf tf vs nr) := hD
  refine lv_aload_n hx hb dX1_move_25 rfl (lv_at hl 0 rfl) ?_
  refine va_get (D := (dC, dI)) (ci := 1) (v := .int (nI 0)) (C := RX1) (T := TX1) (N := 8) hx hb hts hiw hown hK hP 0 rfl rfl 0 (by decide) hf_29 (fun _ h9 => h9) rfl dX1_move_26 ?_
  refine lv_if_le (tgt := 34) hx hb dX1_move_29 (by decide) (fun h29 => ?_) (fun h29 => absurd (show nI 0 ≤ 0 from Int32.le_refl _) h29)
  refine lv_aload_n hx hb dX1_move_34 rfl (lv_at hl 0 rfl) ?_
  refine lv_aload_n hx hb dX1_move_35 rfl (lv_at hl 0 rfl) ?_
  refine va_get (D := (dC, dI)) (ci := 1) (v := .ref (a 3)) (C := RX1) (T := TX1) (N := 8) hx hb hts hiw hown hK hP 0 rfl rfl 4 (by decide) hf_17 (fun _ h9 => h9) rfl dX1_move_36 ?_
  refine lv_iload_n hx hb dX1_move_39 rfl (lv_at hl 1 rfl) ?_
  refine ga_iald hx hb hK hP 3 0 rfl rfl i (v := nI (cf i)) rfl (by omega) (by decide) dX1_move_40 ?_
  refine lv_bipush (v := 6) hx hb dX1_move_41 (by decide) ?_
  refine lv_icmp_ne (tgt := 50) hx hb dX1_move_43 (by decide) (fun h43 => ?_) (fun h43 => absurd h43 (fun q => by have := (nI_eq (b := 6) (by omega) (by decide)).mp q; omega))
  refine lv_iconst (v := 0) hx hb dX1_move_50 (by decide) ?_
  refine ga_is (y := nI 0) (rfl) ?_
  refine va_put (D := (dC, dI)) (ci := 1) (v := .int (nI 0)) (ty := .int) (C := RX1) (T := TX1) (N := 8) hx hb hts hiw tyX1 tyX1_ok nmX1 hown hK hP hD hS 0 rfl rfl 0 (by decide) hf_29 (fun _ h9 => h9) rfl (by decide +kernel) rfl rfl (Nat.le_of_ble_eq_true rfl) dX1_move_51 (fun H locs hP hD hS => ?_)
  have hP : va_P (dC, dI) vwCl (MW cI cZ a 0 n wv lo cf tf vs nr) H := hP
  have hD : va_D A (MW cI cZ a 0 n wv lo cf tf vs nr) := hD
  refine lv_aload_n hx hb dX1_move_54 rfl (lv_at hl 0 rfl) ?_
  refine va_get (D := (dC, dI)) (ci := 1) (v := .int (nI 0)) (C := RX1) (T := TX1) (N := 8) hx hb hts hiw hown hK hP 0 rfl rfl 0 (by decide) hf_29 (fun _ h9 => h9) rfl dX1_move_55 ?_
  refine lv_if_le (tgt := 63) hx hb dX1_move_58 (by decide) (fun h58 => ?_) (fun h58 => absurd (show nI 0 ≤ 0 from Int32.le_refl _) h58)
  refine lv_aload_n hx hb dX1_move_63 rfl (lv_at hl 0 rfl) ?_
  refine va_get (D := (dC, dI)) (ci := 1) (v := .ref (a 4)) (C := RX1) (T := TX1) (N := 8) hx hb hts hiw hown hK hP 0 rfl rfl 5 (by decide) hf_20 (fun _ h9 => h9) rfl dX1_move_64 ?_
  refine lv_bipush (v := 6) hx hb dX1_move_67 (by decide) ?_
  refine lv_iload_n hx hb dX1_move_69 rfl (lv_at hl 1 rfl) ?_
  refine lv_imul hx hb dX1_move_70 ?_
  refine lv_aload_n hx hb dX1_move_71 rfl (lv_at hl 0 rfl) ?_
  refine va_get (D := (dC, dI)) (ci := 1) (v := .ref (a 3)) (C := RX1) (T := TX1) (N := 8) hx hb hts hiw hown hK hP 0 rfl rfl 4 (by decide) hf_17 (fun _ h9 => h9) rfl dX1_move_72 ?_
  refine lv_iload_n hx hb dX1_move_75 rfl (lv_at hl 1 rfl) ?_
  refine ga_iald hx hb hK hP 3 0 rfl rfl i (v := nI (cf i)) rfl (by omega) (by decide) dX1_move_76 ?_
  refine lv_iadd hx hb dX1_move_77 ?_
  refine ga_is (y := nI (i * 6 + cf i)) (by rw [show (6 : Int32) = nI 6 from rfl, pk_mul, nI_add, Nat.mul_comm 6 i]) ?_
  refine lv_iload_n hx hb dX1_move_78 rfl (lv_at hl 2 rfl) ?_
  refine ga_iast hx hb hK hP hD hS 4 0 rfl rfl (i * 6 + cf i) (by omega) (by decide) (upd_nI _ _ j) (ws' := MW cI cZ a 0 n wv lo cf (va_up tf (i * 6 + cf i) j) vs nr) rfl dX1_move_79 (fun H locs hP hD hS => ?_)
  refine lv_aload_n hx hb dX1_move_80 rfl (lv_at hl 0 rfl) ?_
  refine va_get (D := (dC, dI)) (ci := 1) (v := .ref (a 3)) (C := RX1) (T := TX1) (N := 8) hx hb hts hiw hown hK hP 0 rfl rfl 4 (by decide) hf_17 (fun _ h9 => h9) rfl dX1_move_81 ?_
  refine lv_iload_n hx hb dX1_move_84 rfl (lv_at hl 1 rfl) ?_
  refine lv_dup2_11 hx hb dX1_move_85 rfl rfl ?_
  refine ga_iald hx hb hK hP 3 0 rfl rfl i (v := nI (cf i)) rfl (by omega) (by decide) dX1_move_86 ?_
  refine lv_iconst (v := 1) hx hb dX1_move_87 (by decide) ?_
  refine lv_iadd hx hb dX1_move_88 ?_
  refine ga_is (y := nI (cf i + 1)) (nI_1 _) ?_
  refine ga_iast hx hb hK hP hD hS 3 0 rfl rfl i (by omega) (by decide) (upd_nI _ _ (cf i + 1)) (ws' := MW cI cZ a 0 n wv lo (va_up cf i (cf i + 1)) (va_up tf (i * 6 + cf i) j) vs nr) rfl dX1_move_89 (fun H locs hP hD hS => ?_)
  refine lv_aload_n hx hb dX1_move_90 rfl (lv_at hl 0 rfl) ?_
  refine va_get (D := (dC, dI)) (ci := 1) (v := .ref (a 3)) (C := RX1) (T := TX1) (N := 8) hx hb hts hiw hown hK hP 0 rfl rfl 4 (by decide) hf_17 (fun _ h9 => h9) rfl dX1_move_91 ?_
  refine lv_iload_n hx hb dX1_move_94 rfl (lv_at hl 1 rfl) ?_
  refine ga_iald hx hb hK hP 3 0 rfl rfl i (v := nI ((va_up cf i (cf i + 1)) i)) rfl (by omega) (by decide) dX1_move_95 ?_
  refine lv_iconst (v := 1) hx hb dX1_move_96 (by decide) ?_
  refine lv_isub hx hb dX1_move_97 ?_
  refine ga_is (y := nI (cf i)) (by rw [va_up_self]; exact nI_pred _) ?_
  exact W.iret (v := (nI (cf i))) hx hb hr (fun t ht hW => ⟨⟨(nI (cf i)), (), rfl, rfl, by rw [ht]; exact hP, va_K.moved hW.alike hK, hD⟩, hS.F ht⟩) hS.2.2 dX1_move_98
set_option maxHeartbeats 4000000 in
set_option maxRecDepth 100000 in
/-- move, full -/
theorem kX1_move_f (l : Launch) (dC : Nat → ClassId) (dI : Nat → Nat → Nat) (cI cZ cA : ClassId) (a : Nat → Nat) (sz : Nat) (th : Nat) (n : Nat) (wv : Nat → Int32) (lo : Nat → Int32) (cf : Nat → Nat) (tf : Nat → Nat) (vs : Nat → Int32) (nr : Nat → Nat) (i j : Nat) (hn4 : n ≤ 400) (hi : i < n) (hj : j < n) (hc : cf i = 6) : Met l yX1_move wsX1_move ({ frames := 1, cells := 0, slots := 0, locals := 21 }) (va_Pc [.ref (a 0), .int (nI i), .int (nI j)] (WP dC dI (GT cI cZ cA) (MW cI cZ a th n wv lo cf tf vs nr) sz)) (va_Qi (fun r (_ : Unit) => r = 0) (fun (_ : Unit) => WQ dC dI (GT cI cZ cA) (va_A (MW cI cZ a th n wv lo cf tf vs nr) sz) (MW cI cZ a 2 n wv lo cf tf vs nr)) (va_A (MW cI cZ a th n wv lo cf tf vs nr) sz)) 0 0 (va_A (MW cI cZ a th n wv lo cf tf vs nr) sz) := by
  refine Met.ofW (cc := cX1_move) (maxL := 3) (ret := (some .int)) (by decide) rfl ?_
  intro p e s m args below meth c s₁ B hml hv
  obtain ⟨rfl, hsz, hP, hK, hD0⟩ := hv
  have hx := B.exec
  have hb := B.bytes
  have hr := B.returns
  have hts := atoms_spec (ws := wsX1_move) B.pre
  have hown : s.vm.findClass RX1 = some m.cls := findClass_of_methodNamed B.named
  have hlocks := B.notSynchronized
  have hf_29 := hts (.fieldLink RX1 29 "GraphSearchModel" "thrown" "I") (by decide +kernel)
  have hf_17 := hts (.fieldLink RX1 17 "GraphSearchModel" "many" "[I") (by decide +kernel)
  have hf_20 := hts (.fieldLink RX1 20 "GraphSearchModel" "to" "[I") (by decide +kernel)
  have hiw : ∀ w ∈ wsX10, w ∈ wsX1_move := by decide +kernel
  subst hsz
  have hD := hD0.self (sz := s.heap.size)
  generalize hAe : va_A (MW cI cZ a th n wv lo cf tf vs nr) s.heap.size = A at hD ⊢
  have hA : ∀ q : Nat, s.heap.size ≤ q → A q := fun q h => by rw [← hAe]; exact Or.inr h
  have hS : va_S A s.heap s.heap [] := va_S.rf
  have hP : va_P (dC, dI) vwCl (MW cI cZ a th n wv lo cf tf vs nr) s.heap := hP
  have hl := lv_entry ([.ref (a 0), .int (nI i), .int (nI j)]) (n := 3) (Nat.le_of_ble_eq_true rfl)
  rw [lg_entry_eq]
  generalize (lg_sl ([.ref (a 0), .int (nI i), .int (nI j)]) ++ List.replicate (3 - (lg_sl ([.ref (a 0), .int (nI i), .int (nI j)])).length) Slot.unset).toArray = ls at hl ⊢
  have hl : lv_has ls 3 [(0, .ref (a 0)), (1, .int (nI i)), (2, .int (nI j))] := hl
  refine lv_aload_n hx hb dX1_move_0 rfl (lv_at hl 0 rfl) ?_
  refine lv_aload_n hx hb dX1_move_1 rfl (lv_at hl 0 rfl) ?_
  refine lv_iload_n hx hb dX1_move_2 rfl (lv_at hl 1 rfl) ?_
  refine W.callR (r := isn (nI i) n) (W.runV (As := [.int (nI i)]) (rest := [.ref (a 0)]) ⟨hx, hb, hml, hown, hts⟩ (kX1_isNode l dC dI cI cZ cA a th n wv lo cf tf vs nr (nI i)) (cwV 1 hts gX1_move_X1_isNode rfl rfl rfl (by decide +kernel) ⟨Nat.le_of_ble_eq_true rfl, Nat.le_of_ble_eq_true rfl⟩) ⟨blindR, va_recv hK hP (ci := 1) (q0 := 0) rfl rfl, preR hP hK⟩ rfl rfl hl.1 rfl (lv_room (Nat.le_of_ble_eq_true rfl)) dX1_move_3 ⟨Nat.zero_le _, Nat.zero_le _⟩) ?_
  refine W.eq (g2 := F0 m 6 ls [.int (isn (nI i) n), .ref (a 0)]) rfl ?_
  refine lv_if_eq (tgt := 21) hx hb dX1_move_6 (by decide) (fun h6 => absurd h6 (by rw [isn_1 hi (by omega)]; decide)) (fun h6 => ?_)
  refine lv_aload_n hx hb dX1_move_9 rfl (lv_at hl 0 rfl) ?_
  refine lv_iload_n hx hb dX1_move_10 rfl (lv_at hl 2 rfl) ?_
  refine W.callR (r := isn (nI j) n) (W.runV (As := [.int (nI j)]) (rest := [.ref (a 0)]) ⟨hx, hb, hml, hown, hts⟩ (kX1_isNode l dC dI cI cZ cA a th n wv lo cf tf vs nr (nI j)) (cwV 1 hts gX1_move_X1_isNode rfl rfl rfl (by decide +kernel) ⟨Nat.le_of_ble_eq_true rfl, Nat.le_of_ble_eq_true rfl⟩) ⟨blindR, va_recv hK hP (ci := 1) (q0 := 0) rfl rfl, preR hP hK⟩ rfl rfl hl.1 rfl (lv_room (Nat.le_of_ble_eq_true rfl)) dX1_move_11 ⟨Nat.zero_le _, Nat.zero_le _⟩) ?_
  refine W.eq (g2 := F0 m 14 ls [.int (isn (nI j) n), .ref (a 0)]) rfl ?_
  refine lv_if_eq (tgt := 21) hx hb dX1_move_14 (by decide) (fun h14 => absurd h14 (by rw [isn_1 hj (by omega)]; decide)) (fun h14 => ?_)
  refine lv_iconst (v := 0) hx hb dX1_move_17 (by decide) ?_
  refine lv_goto (tgt := 22) hx hb dX1_move_18 (by decide) ?_
  refine ga_is (y := nI 0) (rfl) ?_
  refine va_put (D := (dC, dI)) (ci := 1) (v := .int (nI 0)) (ty := .int) (C := RX1) (T := TX1) (N := 8) hx hb hts hiw tyX1 tyX1_ok nmX1 hown hK hP hD hS 0 rfl rfl 0 (by decide) hf_29 (fun _ h9 => h9) rfl (by decide +kernel) rfl rfl (Nat.le_of_ble_eq_true rfl) dX1_move_22 (fun H locs hP hD hS => ?_)
  have hP : va_P (dC, dI) vwCl (MW cI cZ a 0 n wv lo cf tf vs nr) H := hP
  have hD : va_D A (MW cI cZ a 0 n wv lo cf tf vs nr) := hD
  refine lv_aload_n hx hb dX1_move_25 rfl (lv_at hl 0 rfl) ?_
  refine va_get (D := (dC, dI)) (ci := 1) (v := .int (nI 0)) (C := RX1) (T := TX1) (N := 8) hx hb hts hiw hown hK hP 0 rfl rfl 0 (by decide) hf_29 (fun _ h9 => h9) rfl dX1_move_26 ?_
  refine lv_if_le (tgt := 34) hx hb dX1_move_29 (by decide) (fun h29 => ?_) (fun h29 => absurd (show nI 0 ≤ 0 from Int32.le_refl _) h29)
  refine lv_aload_n hx hb dX1_move_34 rfl (lv_at hl 0 rfl) ?_
  refine lv_aload_n hx hb dX1_move_35 rfl (lv_at hl 0 rfl) ?_
  refine va_get (D := (dC, dI)) (ci := 1) (v := .ref (a 3)) (C := RX1) (T := TX1) (N := 8) hx hb hts hiw hown hK hP 0 rfl rfl 4 (by decide) hf_17 (fun _ h9 => h9) rfl dX1_move_36 ?_
  refine lv_iload_n hx hb dX1_move_39 rfl (lv_at hl 1 rfl) ?_
  refine ga_iald hx hb hK hP 3 0 rfl rfl i (v := nI (cf i)) rfl (by omega) (by decide) dX1_move_40 ?_
  refine lv_bipush (v := 6) hx hb dX1_move_41 (by decide) ?_
  refine lv_icmp_ne (tgt := 50) hx hb dX1_move_43 (by decide) (fun h43 => absurd (show nI (cf i) = 6 by rw [hc]; rfl) h43) (fun h43 => ?_)
  refine lv_iconst (v := 2) hx hb dX1_move_46 (by decide) ?_
  refine lv_goto (tgt := 51) hx hb dX1_move_47 (by decide) ?_
  refine ga_is (y := nI 2) (rfl) ?_
  refine va_put (D := (dC, dI)) (ci := 1) (v := .int (nI 2)) (ty := .int) (C := RX1) (T := TX1) (N := 8) hx hb hts hiw tyX1 tyX1_ok nmX1 hown hK hP hD hS 0 rfl rfl 0 (by decide) hf_29 (fun _ h9 => h9) rfl (by decide +kernel) rfl rfl (Nat.le_of_ble_eq_true rfl) dX1_move_51 (fun H locs hP hD hS => ?_)
  have hP : va_P (dC, dI) vwCl (MW cI cZ a 2 n wv lo cf tf vs nr) H := hP
  have hD : va_D A (MW cI cZ a 2 n wv lo cf tf vs nr) := hD
  refine lv_aload_n hx hb dX1_move_54 rfl (lv_at hl 0 rfl) ?_
  refine va_get (D := (dC, dI)) (ci := 1) (v := .int (nI 2)) (C := RX1) (T := TX1) (N := 8) hx hb hts hiw hown hK hP 0 rfl rfl 0 (by decide) hf_29 (fun _ h9 => h9) rfl dX1_move_55 ?_
  refine lv_if_le (tgt := 63) hx hb dX1_move_58 (by decide) (fun h58 => absurd h58 (nI_nle (by decide) (by decide))) (fun h58 => ?_)
  refine lv_iconst (v := 0) hx hb dX1_move_61 (by decide) ?_
  exact W.iret (v := 0) hx hb hr (fun t ht hW => ⟨⟨0, (), rfl, rfl, by rw [ht]; exact hP, va_K.moved hW.alike hK, hD⟩, hS.F ht⟩) hS.2.2 dX1_move_62
set_option maxHeartbeats 4000000 in
set_option maxRecDepth 100000 in
/-- move, no such nodes -/
theorem kX1_move_n (l : Launch) (dC : Nat → ClassId) (dI : Nat → Nat → Nat) (cI cZ cA : ClassId) (a : Nat → Nat) (sz : Nat) (th : Nat) (n : Nat) (wv : Nat → Int32) (lo : Nat → Int32) (cf : Nat → Nat) (tf : Nat → Nat) (vs : Nat → Int32) (nr : Nat → Nat) (x y : Int32) (hno : isn x n = 0 ∨ isn y n = 0) : Met l yX1_move wsX1_move ({ frames := 1, cells := 0, slots := 0, locals := 21 }) (va_Pc [.ref (a 0), .int x, .int y] (WP dC dI (GT cI cZ cA) (MW cI cZ a th n wv lo cf tf vs nr) sz)) (va_Qi (fun r (_ : Unit) => r = 0) (fun (_ : Unit) => WQ dC dI (GT cI cZ cA) (va_A (MW cI cZ a th n wv lo cf tf vs nr) sz) (MW cI cZ a 1 n wv lo cf tf vs nr)) (va_A (MW cI cZ a th n wv lo cf tf vs nr) sz)) 0 0 (va_A (MW cI cZ a th n wv lo cf tf vs nr) sz) := by
  refine Met.ofW (cc := cX1_move) (maxL := 3) (ret := (some .int)) (by decide) rfl ?_
  intro p e s m args below meth c s₁ B hml hv
  obtain ⟨rfl, hsz, hP, hK, hD0⟩ := hv
  have hx := B.exec
  have hb := B.bytes
  have hr := B.returns
  have hts := atoms_spec (ws := wsX1_move) B.pre
  have hown : s.vm.findClass RX1 = some m.cls := findClass_of_methodNamed B.named
  have hlocks := B.notSynchronized
  have hf_29 := hts (.fieldLink RX1 29 "GraphSearchModel" "thrown" "I") (by decide +kernel)
  have hf_17 := hts (.fieldLink RX1 17 "GraphSearchModel" "many" "[I") (by decide +kernel)
  have hf_20 := hts (.fieldLink RX1 20 "GraphSearchModel" "to" "[I") (by decide +kernel)
  have hiw : ∀ w ∈ wsX10, w ∈ wsX1_move := by decide +kernel
  subst hsz
  have hD := hD0.self (sz := s.heap.size)
  generalize hAe : va_A (MW cI cZ a th n wv lo cf tf vs nr) s.heap.size = A at hD ⊢
  have hA : ∀ q : Nat, s.heap.size ≤ q → A q := fun q h => by rw [← hAe]; exact Or.inr h
  have hS : va_S A s.heap s.heap [] := va_S.rf
  have hP : va_P (dC, dI) vwCl (MW cI cZ a th n wv lo cf tf vs nr) s.heap := hP
  have hl := lv_entry ([.ref (a 0), .int x, .int y]) (n := 3) (Nat.le_of_ble_eq_true rfl)
  rw [lg_entry_eq]
  generalize (lg_sl ([.ref (a 0), .int x, .int y]) ++ List.replicate (3 - (lg_sl ([.ref (a 0), .int x, .int y])).length) Slot.unset).toArray = ls at hl ⊢
  have hl : lv_has ls 3 [(0, .ref (a 0)), (1, .int x), (2, .int y)] := hl
  refine lv_aload_n hx hb dX1_move_0 rfl (lv_at hl 0 rfl) ?_
  refine lv_aload_n hx hb dX1_move_1 rfl (lv_at hl 0 rfl) ?_
  refine lv_iload_n hx hb dX1_move_2 rfl (lv_at hl 1 rfl) ?_
  refine W.callR (r := isn x n) (W.runV (As := [.int x]) (rest := [.ref (a 0)]) ⟨hx, hb, hml, hown, hts⟩ (kX1_isNode l dC dI cI cZ cA a th n wv lo cf tf vs nr x) (cwV 1 hts gX1_move_X1_isNode rfl rfl rfl (by decide +kernel) ⟨Nat.le_of_ble_eq_true rfl, Nat.le_of_ble_eq_true rfl⟩) ⟨blindR, va_recv hK hP (ci := 1) (q0 := 0) rfl rfl, preR hP hK⟩ rfl rfl hl.1 rfl (lv_room (Nat.le_of_ble_eq_true rfl)) dX1_move_3 ⟨Nat.zero_le _, Nat.zero_le _⟩) ?_
  refine W.eq (g2 := F0 m 6 ls [.int (isn x n), .ref (a 0)]) rfl ?_
  refine lv_if_eq (tgt := 21) hx hb dX1_move_6 (by decide) (fun h6 => ?_) (fun h6 => ?_)
  · refine lv_iconst (v := 1) hx hb dX1_move_21 (by decide) ?_
    refine ga_is (y := nI 1) (rfl) ?_
    refine va_put (D := (dC, dI)) (ci := 1) (v := .int (nI 1)) (ty := .int) (C := RX1) (T := TX1) (N := 8) hx hb hts hiw tyX1 tyX1_ok nmX1 hown hK hP hD hS 0 rfl rfl 0 (by decide) hf_29 (fun _ h9 => h9) rfl (by decide +kernel) rfl rfl (Nat.le_of_ble_eq_true rfl) dX1_move_22 (fun H locs hP hD hS => ?_)
    have hP : va_P (dC, dI) vwCl (MW cI cZ a 1 n wv lo cf tf vs nr) H := hP
    have hD : va_D A (MW cI cZ a 1 n wv lo cf tf vs nr) := hD
    refine lv_aload_n hx hb dX1_move_25 rfl (lv_at hl 0 rfl) ?_
    refine va_get (D := (dC, dI)) (ci := 1) (v := .int (nI 1)) (C := RX1) (T := TX1) (N := 8) hx hb hts hiw hown hK hP 0 rfl rfl 0 (by decide) hf_29 (fun _ h9 => h9) rfl dX1_move_26 ?_
    refine lv_if_le (tgt := 34) hx hb dX1_move_29 (by decide) (fun h29 => absurd h29 (nI_nle (by decide) (by decide))) (fun h29 => ?_)
    refine lv_iconst (v := 0) hx hb dX1_move_32 (by decide) ?_
    exact W.iret (v := 0) hx hb hr (fun t ht hW => ⟨⟨0, (), rfl, rfl, by rw [ht]; exact hP, va_K.moved hW.alike hK, hD⟩, hS.F ht⟩) hS.2.2 dX1_move_33
  · refine lv_aload_n hx hb dX1_move_9 rfl (lv_at hl 0 rfl) ?_
    refine lv_iload_n hx hb dX1_move_10 rfl (lv_at hl 2 rfl) ?_
    refine W.callR (r := isn y n) (W.runV (As := [.int y]) (rest := [.ref (a 0)]) ⟨hx, hb, hml, hown, hts⟩ (kX1_isNode l dC dI cI cZ cA a th n wv lo cf tf vs nr y) (cwV 1 hts gX1_move_X1_isNode rfl rfl rfl (by decide +kernel) ⟨Nat.le_of_ble_eq_true rfl, Nat.le_of_ble_eq_true rfl⟩) ⟨blindR, va_recv hK hP (ci := 1) (q0 := 0) rfl rfl, preR hP hK⟩ rfl rfl hl.1 rfl (lv_room (Nat.le_of_ble_eq_true rfl)) dX1_move_11 ⟨Nat.zero_le _, Nat.zero_le _⟩) ?_
    refine W.eq (g2 := F0 m 14 ls [.int (isn y n), .ref (a 0)]) rfl ?_
    refine lv_if_eq (tgt := 21) hx hb dX1_move_14 (by decide) (fun h14 => ?_) (fun h14 => absurd (hno.resolve_left h6) h14)
    refine lv_iconst (v := 1) hx hb dX1_move_21 (by decide) ?_
    refine ga_is (y := nI 1) (rfl) ?_
    refine va_put (D := (dC, dI)) (ci := 1) (v := .int (nI 1)) (ty := .int) (C := RX1) (T := TX1) (N := 8) hx hb hts hiw tyX1 tyX1_ok nmX1 hown hK hP hD hS 0 rfl rfl 0 (by decide) hf_29 (fun _ h9 => h9) rfl (by decide +kernel) rfl rfl (Nat.le_of_ble_eq_true rfl) dX1_move_22 (fun H locs hP hD hS => ?_)
    have hP : va_P (dC, dI) vwCl (MW cI cZ a 1 n wv lo cf tf vs nr) H := hP
    have hD : va_D A (MW cI cZ a 1 n wv lo cf tf vs nr) := hD
    refine lv_aload_n hx hb dX1_move_25 rfl (lv_at hl 0 rfl) ?_
    refine va_get (D := (dC, dI)) (ci := 1) (v := .int (nI 1)) (C := RX1) (T := TX1) (N := 8) hx hb hts hiw hown hK hP 0 rfl rfl 0 (by decide) hf_29 (fun _ h9 => h9) rfl dX1_move_26 ?_
    refine lv_if_le (tgt := 34) hx hb dX1_move_29 (by decide) (fun h29 => absurd h29 (nI_nle (by decide) (by decide))) (fun h29 => ?_)
    refine lv_iconst (v := 0) hx hb dX1_move_32 (by decide) ?_
    exact W.iret (v := 0) hx hb hr (fun t ht hW => ⟨⟨0, (), rfl, rfl, by rw [ht]; exact hP, va_K.moved hW.alike hK, hD⟩, hS.F ht⟩) hS.2.2 dX1_move_33
set_option maxHeartbeats 4000000 in
set_option maxRecDepth 100000 in
/-- drop, no such node -/
theorem kX1_drop_n (l : Launch) (dC : Nat → ClassId) (dI : Nat → Nat → Nat) (cI cZ cA : ClassId) (a : Nat → Nat) (sz : Nat) (th : Nat) (n : Nat) (wv : Nat → Int32) (lo : Nat → Int32) (cf : Nat → Nat) (tf : Nat → Nat) (vs : Nat → Int32) (nr : Nat → Nat) (x : Int32) (hno : isn x n = 0) : Met l yX1_drop wsX1_drop ({ frames := 1, cells := 0, slots := 0, locals := 21 }) (va_Pc [.ref (a 0), .int x] (WP dC dI (GT cI cZ cA) (MW cI cZ a th n wv lo cf tf vs nr) sz)) (va_Qi (fun r (_ : Unit) => r = 0) (fun (_ : Unit) => WQ dC dI (GT cI cZ cA) (va_A (MW cI cZ a th n wv lo cf tf vs nr) sz) (MW cI cZ a 0 n wv lo cf tf vs nr)) (va_A (MW cI cZ a th n wv lo cf tf vs nr) sz)) 0 0 (va_A (MW cI cZ a th n wv lo cf tf vs nr) sz) := by
  refine Met.ofW (cc := cX1_drop) (maxL := 2) (ret := (some .boolean)) (by decide) rfl ?_
  intro p e s m args below meth c s₁ B hml hv
  obtain ⟨rfl, hsz, hP, hK, hD0⟩ := hv
  have hx := B.exec
  have hb := B.bytes
  have hr := B.returns
  have hts := atoms_spec (ws := wsX1_drop) B.pre
  have hown : s.vm.findClass RX1 = some m.cls := findClass_of_methodNamed B.named
  have hlocks := B.notSynchronized
  have hf_29 := hts (.fieldLink RX1 29 "GraphSearchModel" "thrown" "I") (by decide +kernel)
  have hf_17 := hts (.fieldLink RX1 17 "GraphSearchModel" "many" "[I") (by decide +kernel)
  have hiw : ∀ w ∈ wsX10, w ∈ wsX1_drop := by decide +kernel
  subst hsz
  have hD := hD0.self (sz := s.heap.size)
  generalize hAe : va_A (MW cI cZ a th n wv lo cf tf vs nr) s.heap.size = A at hD ⊢
  have hA : ∀ q : Nat, s.heap.size ≤ q → A q := fun q h => by rw [← hAe]; exact Or.inr h
  have hS : va_S A s.heap s.heap [] := va_S.rf
  have hP : va_P (dC, dI) vwCl (MW cI cZ a th n wv lo cf tf vs nr) s.heap := hP
  have hl := lv_entry ([.ref (a 0), .int x]) (n := 2) (Nat.le_of_ble_eq_true rfl)
  rw [lg_entry_eq]
  generalize (lg_sl ([.ref (a 0), .int x]) ++ List.replicate (2 - (lg_sl ([.ref (a 0), .int x])).length) Slot.unset).toArray = ls at hl ⊢
  have hl : lv_has ls 2 [(0, .ref (a 0)), (1, .int x)] := hl
  refine lv_aload_n hx hb dX1_drop_0 rfl (lv_at hl 0 rfl) ?_
  refine lv_iconst (v := 0) hx hb dX1_drop_1 (by decide) ?_
  refine ga_is (y := nI 0) (rfl) ?_
  refine va_put (D := (dC, dI)) (ci := 1) (v := .int (nI 0)) (ty := .int) (C := RX1) (T := TX1) (N := 8) hx hb hts hiw tyX1 tyX1_ok nmX1 hown hK hP hD hS 0 rfl rfl 0 (by decide) hf_29 (fun _ h9 => h9) rfl (by decide +kernel) rfl rfl (Nat.le_of_ble_eq_true rfl) dX1_drop_2 (fun H locs hP hD hS => ?_)
  have hP : va_P (dC, dI) vwCl (MW cI cZ a 0 n wv lo cf tf vs nr) H := hP
  have hD : va_D A (MW cI cZ a 0 n wv lo cf tf vs nr) := hD
  refine lv_aload_n hx hb dX1_drop_5 rfl (lv_at hl 0 rfl) ?_
  refine lv_iload_n hx hb dX1_drop_6 rfl (lv_at hl 1 rfl) ?_
  refine W.callR (r := isn x n) (W.runV (As := [.int x]) (rest := []) ⟨hx, hb, hml, hown, hts⟩ (kX1_isNode l dC dI cI cZ cA a 0 n wv lo cf tf vs nr x) (cwV 1 hts gX1_drop_X1_isNode rfl rfl rfl (by decide +kernel) ⟨Nat.le_of_ble_eq_true rfl, Nat.le_of_ble_eq_true rfl⟩) ⟨blindR, va_recv hK hP (ci := 1) (q0 := 0) rfl rfl, preR hP hK⟩ rfl rfl hl.1 rfl (lv_room (Nat.le_of_ble_eq_true rfl)) dX1_drop_7 ⟨Nat.zero_le _, Nat.zero_le _⟩) ?_
  refine W.eq (g2 := F0 m 10 ls [.int (isn x n)]) rfl ?_
  refine lv_if_eq (tgt := 34) hx hb dX1_drop_10 (by decide) (fun h10 => ?_) (fun h10 => absurd hno h10)
  refine lv_iconst (v := 0) hx hb dX1_drop_34 (by decide) ?_
  exact W.zret (v := 0) hx hb hr (by decide) (fun t ht hW => ⟨⟨0, (), rfl, rfl, by rw [ht]; exact hP, va_K.moved hW.alike hK, hD⟩, hS.F ht⟩) hS.2.2 dX1_drop_35
set_option maxHeartbeats 4000000 in
set_option maxRecDepth 100000 in
/-- drop, a node without moves -/
theorem kX1_drop_z (l : Launch) (dC : Nat → ClassId) (dI : Nat → Nat → Nat) (cI cZ cA : ClassId) (a : Nat → Nat) (sz : Nat) (th : Nat) (n : Nat) (wv : Nat → Int32) (lo : Nat → Int32) (cf : Nat → Nat) (tf : Nat → Nat) (vs : Nat → Int32) (nr : Nat → Nat) (j : Nat) (hn4 : n ≤ 400) (hj : j < n) (hc : cf j = 0) : Met l yX1_drop wsX1_drop ({ frames := 1, cells := 0, slots := 0, locals := 21 }) (va_Pc [.ref (a 0), .int (nI j)] (WP dC dI (GT cI cZ cA) (MW cI cZ a th n wv lo cf tf vs nr) sz)) (va_Qi (fun r (_ : Unit) => r = 0) (fun (_ : Unit) => WQ dC dI (GT cI cZ cA) (va_A (MW cI cZ a th n wv lo cf tf vs nr) sz) (MW cI cZ a 0 n wv lo cf tf vs nr)) (va_A (MW cI cZ a th n wv lo cf tf vs nr) sz)) 0 0 (va_A (MW cI cZ a th n wv lo cf tf vs nr) sz) := by
  refine Met.ofW (cc := cX1_drop) (maxL := 2) (ret := (some .boolean)) (by decide) rfl ?_
  intro p e s m args below meth c s₁ B hml hv
  obtain ⟨rfl, hsz, hP, hK, hD0⟩ := hv
  have hx := B.exec
  have hb := B.bytes
  have hr := B.returns
  have hts := atoms_spec (ws := wsX1_drop) B.pre
  have hown : s.vm.findClass RX1 = some m.cls := findClass_of_methodNamed B.named
  have hlocks := B.notSynchronized
  have hf_29 := hts (.fieldLink RX1 29 "GraphSearchModel" "thrown" "I") (by decide +kernel)
  have hf_17 := hts (.fieldLink RX1 17 "GraphSearchModel" "many" "[I") (by decide +kernel)
  have hiw : ∀ w ∈ wsX10, w ∈ wsX1_drop := by decide +kernel
  subst hsz
  have hD := hD0.self (sz := s.heap.size)
  generalize hAe : va_A (MW cI cZ a th n wv lo cf tf vs nr) s.heap.size = A at hD ⊢
  have hA : ∀ q : Nat, s.heap.size ≤ q → A q := fun q h => by rw [← hAe]; exact Or.inr h
  have hS : va_S A s.heap s.heap [] := va_S.rf
  have hP : va_P (dC, dI) vwCl (MW cI cZ a th n wv lo cf tf vs nr) s.heap := hP
  have hl := lv_entry ([.ref (a 0), .int (nI j)]) (n := 2) (Nat.le_of_ble_eq_true rfl)
  rw [lg_entry_eq]
  generalize (lg_sl ([.ref (a 0), .int (nI j)]) ++ List.replicate (2 - (lg_sl ([.ref (a 0), .int (nI j)])).length) Slot.unset).toArray = ls at hl ⊢
  have hl : lv_has ls 2 [(0, .ref (a 0)), (1, .int (nI j))] := hl
  refine lv_aload_n hx hb dX1_drop_0 rfl (lv_at hl 0 rfl) ?_
  refine lv_iconst (v := 0) hx hb dX1_drop_1 (by decide) ?_
  refine ga_is (y := nI 0) (rfl) ?_
  refine va_put (D := (dC, dI)) (ci := 1) (v := .int (nI 0)) (ty := .int) (C := RX1) (T := TX1) (N := 8) hx hb hts hiw tyX1 tyX1_ok nmX1 hown hK hP hD hS 0 rfl rfl 0 (by decide) hf_29 (fun _ h9 => h9) rfl (by decide +kernel) rfl rfl (Nat.le_of_ble_eq_true rfl) dX1_drop_2 (fun H locs hP hD hS => ?_)
  have hP : va_P (dC, dI) vwCl (MW cI cZ a 0 n wv lo cf tf vs nr) H := hP
  have hD : va_D A (MW cI cZ a 0 n wv lo cf tf vs nr) := hD
  refine lv_aload_n hx hb dX1_drop_5 rfl (lv_at hl 0 rfl) ?_
  refine lv_iload_n hx hb dX1_drop_6 rfl (lv_at hl 1 rfl) ?_
  refine W.callR (r := isn (nI j) n) (W.runV (As := [.int (nI j)]) (rest := []) ⟨hx, hb, hml, hown, hts⟩ (kX1_isNode l dC dI cI cZ cA a 0 n wv lo cf tf vs nr (nI j)) (cwV 1 hts gX1_drop_X1_isNode rfl rfl rfl (by decide +kernel) ⟨Nat.le_of_ble_eq_true rfl, Nat.le_of_ble_eq_true rfl⟩) ⟨blindR, va_recv hK hP (ci := 1) (q0 := 0) rfl rfl, preR hP hK⟩ rfl rfl hl.1 rfl (lv_room (Nat.le_of_ble_eq_true rfl)) dX1_drop_7 ⟨Nat.zero_le _, Nat.zero_le _⟩) ?_
  refine W.eq (g2 := F0 m 10 ls [.int (isn (nI j) n)]) rfl ?_
  refine lv_if_eq (tgt := 34) hx hb dX1_drop_10 (by decide) (fun h10 => absurd h10 (by rw [isn_1 hj (by omega)]; decide)) (fun h10 => ?_)
  refine lv_aload_n hx hb dX1_drop_13 rfl (lv_at hl 0 rfl) ?_
  refine va_get (D := (dC, dI)) (ci := 1) (v := .ref (a 3)) (C := RX1) (T := TX1) (N := 8) hx hb hts hiw hown hK hP 0 rfl rfl 4 (by decide) hf_17 (fun _ h9 => h9) rfl dX1_drop_14 ?_
  refine lv_aload_n hx hb dX1_drop_17 rfl (lv_at hl 0 rfl) ?_
  refine lv_iload_n hx hb dX1_drop_18 rfl (lv_at hl 1 rfl) ?_
  refine W.callR (r := isn (nI j) n) (W.runV (As := [.int (nI j)]) (rest := [.ref (a 3)]) ⟨hx, hb, hml, hown, hts⟩ (kX1_isNode l dC dI cI cZ cA a 0 n wv lo cf tf vs nr (nI j)) (cwV 1 hts gX1_drop_X1_isNode rfl rfl rfl (by decide +kernel) ⟨Nat.le_of_ble_eq_true rfl, Nat.le_of_ble_eq_true rfl⟩) ⟨blindR, va_recv hK hP (ci := 1) (q0 := 0) rfl rfl, preR hP hK⟩ rfl rfl hl.1 rfl (lv_room (Nat.le_of_ble_eq_true rfl)) dX1_drop_19 ⟨Nat.zero_le _, Nat.zero_le _⟩) ?_
  refine W.eq (g2 := F0 m 22 ls [.int (isn (nI j) n), .ref (a 3)]) rfl ?_
  refine lv_if_eq (tgt := 29) hx hb dX1_drop_22 (by decide) (fun h22 => absurd h22 (by rw [isn_1 hj (by omega)]; decide)) (fun h22 => ?_)
  refine lv_iload_n hx hb dX1_drop_25 rfl (lv_at hl 1 rfl) ?_
  refine lv_goto (tgt := 30) hx hb dX1_drop_26 (by decide) ?_
  refine ga_iald hx hb hK hP 3 0 rfl rfl j (v := nI (cf j)) rfl (by omega) (by decide) dX1_drop_30 ?_
  refine lv_if_ne (tgt := 36) hx hb dX1_drop_31 (by decide) (fun h31 => absurd (show nI (cf j) = 0 by rw [hc]; rfl) h31) (fun h31 => ?_)
  refine lv_iconst (v := 0) hx hb dX1_drop_34 (by decide) ?_
  exact W.zret (v := 0) hx hb hr (by decide) (fun t ht hW => ⟨⟨0, (), rfl, rfl, by rw [ht]; exact hP, va_K.moved hW.alike hK, hD⟩, hS.F ht⟩) hS.2.2 dX1_drop_35
set_option maxHeartbeats 4000000 in
set_option maxRecDepth 100000 in
/-- drop -/
theorem kX1_drop (l : Launch) (dC : Nat → ClassId) (dI : Nat → Nat → Nat) (cI cZ cA : ClassId) (a : Nat → Nat) (sz : Nat) (th : Nat) (n : Nat) (wv : Nat → Int32) (lo : Nat → Int32) (cf : Nat → Nat) (tf : Nat → Nat) (vs : Nat → Int32) (nr : Nat → Nat) (j c0 : Nat) (hn4 : n ≤ 400) (hj : j < n) (hc : cf j = c0 + 1) (hc6 : c0 < 6) : Met l yX1_drop wsX1_drop ({ frames := 1, cells := 0, slots := 0, locals := 21 }) (va_Pc [.ref (a 0), .int (nI j)] (WP dC dI (GT cI cZ cA) (MW cI cZ a th n wv lo cf tf vs nr) sz)) (va_Qi (fun r (_ : Unit) => r = 1) (fun (_ : Unit) => WQ dC dI (GT cI cZ cA) (va_A (MW cI cZ a th n wv lo cf tf vs nr) sz) (MW cI cZ a 0 n wv lo (va_up cf j c0) tf vs nr)) (va_A (MW cI cZ a th n wv lo cf tf vs nr) sz)) 0 0 (va_A (MW cI cZ a th n wv lo cf tf vs nr) sz) := by
  refine Met.ofW (cc := cX1_drop) (maxL := 2) (ret := (some .boolean)) (by decide) rfl ?_
  intro p e s m args below meth c s₁ B hml hv
  obtain ⟨rfl, hsz, hP, hK, hD0⟩ := hv
  have hx := B.exec
  have hb := B.bytes
  have hr := B.returns
  have hts := atoms_spec (ws := wsX1_drop) B.pre
  have hown : s.vm.findClass RX1 = some m.cls := findClass_of_methodNamed B.named
  have hlocks := B.notSynchronized
  have hf_29 := hts (.fieldLink RX1 29 "GraphSearchModel" "thrown" "I") (by decide +kernel)
  have hf_17 := hts (.fieldLink RX1 17 "GraphSearchModel" "many" "[I") (by decide +kernel)
  have hiw : ∀ w ∈ wsX10, w ∈ wsX1_drop := by decide +kernel
  subst hsz
  have hD := hD0.self (sz := s.heap.size)
  generalize hAe : va_A (MW cI cZ a th n wv lo cf tf vs nr) s.heap.size = A at hD ⊢
  have hA : ∀ q : Nat, s.heap.size ≤ q → A q := fun q h => by rw [← hAe]; exact Or.inr h
  have hS : va_S A s.heap s.heap [] := va_S.rf
  have hP : va_P (dC, dI) vwCl (MW cI cZ a th n wv lo cf tf vs nr) s.heap := hP
  have hl := lv_entry ([.ref (a 0), .int (nI j)]) (n := 2) (Nat.le_of_ble_eq_true rfl)
  rw [lg_entry_eq]
  generalize (lg_sl ([.ref (a 0), .int (nI j)]) ++ List.replicate (2 - (lg_sl ([.ref (a 0), .int (nI j)])).length) Slot.unset).toArray = ls at hl ⊢
  have hl : lv_has ls 2 [(0, .ref (a 0)), (1, .int (nI j))] := hl
  refine lv_aload_n hx hb dX1_drop_0 rfl (lv_at hl 0 rfl) ?_
  refine lv_iconst (v := 0) hx hb dX1_drop_1 (by decide) ?_
  refine ga_is (y := nI 0) (rfl) ?_
  refine va_put (D := (dC, dI)) (ci := 1) (v := .int (nI 0)) (ty := .int) (C := RX1) (T := TX1) (N := 8) hx hb hts hiw tyX1 tyX1_ok nmX1 hown hK hP hD hS 0 rfl rfl 0 (by decide) hf_29 (fun _ h9 => h9) rfl (by decide +kernel) rfl rfl (Nat.le_of_ble_eq_true rfl) dX1_drop_2 (fun H locs hP hD hS => ?_)
  have hP : va_P (dC, dI) vwCl (MW cI cZ a 0 n wv lo cf tf vs nr) H := hP
  have hD : va_D A (MW cI cZ a 0 n wv lo cf tf vs nr) := hD
  refine lv_aload_n hx hb dX1_drop_5 rfl (lv_at hl 0 rfl) ?_
  refine lv_iload_n hx hb dX1_drop_6 rfl (lv_at hl 1 rfl) ?_
  refine W.callR (r := isn (nI j) n) (W.runV (As := [.int (nI j)]) (rest := []) ⟨hx, hb, hml, hown, hts⟩ (kX1_isNode l dC dI cI cZ cA a 0 n wv lo cf tf vs nr (nI j)) (cwV 1 hts gX1_drop_X1_isNode rfl rfl rfl (by decide +kernel) ⟨Nat.le_of_ble_eq_true rfl, Nat.le_of_ble_eq_true rfl⟩) ⟨blindR, va_recv hK hP (ci := 1) (q0 := 0) rfl rfl, preR hP hK⟩ rfl rfl hl.1 rfl (lv_room (Nat.le_of_ble_eq_true rfl)) dX1_drop_7 ⟨Nat.zero_le _, Nat.zero_le _⟩) ?_
  refine W.eq (g2 := F0 m 10 ls [.int (isn (nI j) n)]) rfl ?_
  refine lv_if_eq (tgt := 34) hx hb dX1_drop_10 (by decide) (fun h10 => absurd h10 (by rw [isn_1 hj (by omega)]; decide)) (fun h10 => ?_)
  refine lv_aload_n hx hb dX1_drop_13 rfl (lv_at hl 0 rfl) ?_
  refine va_get (D := (dC, dI)) (ci := 1) (v := .ref (a 3)) (C := RX1) (T := TX1) (N := 8) hx hb hts hiw hown hK hP 0 rfl rfl 4 (by decide) hf_17 (fun _ h9 => h9) rfl dX1_drop_14 ?_
  refine lv_aload_n hx hb dX1_drop_17 rfl (lv_at hl 0 rfl) ?_
  refine lv_iload_n hx hb dX1_drop_18 rfl (lv_at hl 1 rfl) ?_
  refine W.callR (r := isn (nI j) n) (W.runV (As := [.int (nI j)]) (rest := [.ref (a 3)]) ⟨hx, hb, hml, hown, hts⟩ (kX1_isNode l dC dI cI cZ cA a 0 n wv lo cf tf vs nr (nI j)) (cwV 1 hts gX1_drop_X1_isNode rfl rfl rfl (by decide +kernel) ⟨Nat.le_of_ble_eq_true rfl, Nat.le_of_ble_eq_true rfl⟩) ⟨blindR, va_recv hK hP (ci := 1) (q0 := 0) rfl rfl, preR hP hK⟩ rfl rfl hl.1 rfl (lv_room (Nat.le_of_ble_eq_true rfl)) dX1_drop_19 ⟨Nat.zero_le _, Nat.zero_le _⟩) ?_
  refine W.eq (g2 := F0 m 22 ls [.int (isn (nI j) n), .ref (a 3)]) rfl ?_
  refine lv_if_eq (tgt := 29) hx hb dX1_drop_22 (by decide) (fun h22 => absurd h22 (by rw [isn_1 hj (by omega)]; decide)) (fun h22 => ?_)
  refine lv_iload_n hx hb dX1_drop_25 rfl (lv_at hl 1 rfl) ?_
  refine lv_goto (tgt := 30) hx hb dX1_drop_26 (by decide) ?_
  refine ga_iald hx hb hK hP 3 0 rfl rfl j (v := nI (cf j)) rfl (by omega) (by decide) dX1_drop_30 ?_
  refine lv_if_ne (tgt := 36) hx hb dX1_drop_31 (by decide) (fun h31 => ?_) (fun h31 => absurd h31 (by rw [hc]; exact nI_ne0 (by omega) (by omega)))
  refine lv_aload_n hx hb dX1_drop_36 rfl (lv_at hl 0 rfl) ?_
  refine va_get (D := (dC, dI)) (ci := 1) (v := .ref (a 3)) (C := RX1) (T := TX1) (N := 8) hx hb hts hiw hown hK hP 0 rfl rfl 4 (by decide) hf_17 (fun _ h9 => h9) rfl dX1_drop_37 ?_
  refine lv_iload_n hx hb dX1_drop_40 rfl (lv_at hl 1 rfl) ?_
  refine lv_dup2_11 hx hb dX1_drop_41 rfl rfl ?_
  refine ga_iald hx hb hK hP 3 0 rfl rfl j (v := nI (cf j)) rfl (by omega) (by decide) dX1_drop_42 ?_
  refine lv_iconst (v := 1) hx hb dX1_drop_43 (by decide) ?_
  refine lv_isub hx hb dX1_drop_44 ?_
  refine ga_is (y := nI c0) (by rw [hc]; exact nI_pred c0) ?_
  refine ga_iast hx hb hK hP hD hS 3 0 rfl rfl j (by omega) (by decide) (upd_nI _ _ c0) (ws' := MW cI cZ a 0 n wv lo (va_up cf j c0) tf vs nr) rfl dX1_drop_45 (fun H locs hP hD hS => ?_)
  refine lv_iconst (v := 1) hx hb dX1_drop_46 (by decide) ?_
  exact W.zret (v := 1) hx hb hr (by decide) (fun t ht hW => ⟨⟨1, (), rfl, rfl, by rw [ht]; exact hP, va_K.moved hW.alike hK, hD⟩, hS.F ht⟩) hS.2.2 dX1_drop_47
set_option maxHeartbeats 4000000 in
set_option maxRecDepth 100000 in
/-- change, no such node -/
theorem kX1_change_n (l : Launch) (dC : Nat → ClassId) (dI : Nat → Nat → Nat) (cI cZ cA : ClassId) (a : Nat → Nat) (sz : Nat) (th : Nat) (n : Nat) (wv : Nat → Int32) (lo : Nat → Int32) (cf : Nat → Nat) (tf : Nat → Nat) (vs : Nat → Int32) (nr : Nat → Nat) (x v b : Int32) (hno : isn x n = 0) : Met l yX1_change wsX1_change ({ frames := 1, cells := 0, slots := 0, locals := 21 }) (va_Pc [.ref (a 0), .int x, .int v, .int b] (WP dC dI (GT cI cZ cA) (MW cI cZ a th n wv lo cf tf vs nr) sz)) (va_Qi (fun r (_ : Unit) => r = 0) (fun (_ : Unit) => WQ dC dI (GT cI cZ cA) (va_A (MW cI cZ a th n wv lo cf tf vs nr) sz) (MW cI cZ a 0 n wv lo cf tf vs nr)) (va_A (MW cI cZ a th n wv lo cf tf vs nr) sz)) 0 0 (va_A (MW cI cZ a th n wv lo cf tf vs nr) sz) := by
  refine Met.ofW (cc := cX1_change) (maxL := 4) (ret := (some .boolean)) (by decide) rfl ?_
  intro p e s m args below meth c s₁ B hml hv
  obtain ⟨rfl, hsz, hP, hK, hD0⟩ := hv
  have hx := B.exec
  have hb := B.bytes
  have hr := B.returns
  have hts := atoms_spec (ws := wsX1_change) B.pre
  have hown : s.vm.findClass RX1 = some m.cls := findClass_of_methodNamed B.named
  have hlocks := B.notSynchronized
  have hf_29 := hts (.fieldLink RX1 29 "GraphSearchModel" "thrown" "I") (by decide +kernel)
  have hf_7 := hts (.fieldLink RX1 7 "GraphSearchModel" "worth" "[I") (by decide +kernel)
  have hf_13 := hts (.fieldLink RX1 13 "GraphSearchModel" "lost" "[Z") (by decide +kernel)
  have hiw : ∀ w ∈ wsX10, w ∈ wsX1_change := by decide +kernel
  subst hsz
  have hD := hD0.self (sz := s.heap.size)
  generalize hAe : va_A (MW cI cZ a th n wv lo cf tf vs nr) s.heap.size = A at hD ⊢
  have hA : ∀ q : Nat, s.heap.size ≤ q → A q := fun q h => by rw [← hAe]; exact Or.inr h
  have hS : va_S A s.heap s.heap [] := va_S.rf
  have hP : va_P (dC, dI) vwCl (MW cI cZ a th n wv lo cf tf vs nr) s.heap := hP
  have hl := lv_entry ([.ref (a 0), .int x, .int v, .int b]) (n := 4) (Nat.le_of_ble_eq_true rfl)
  rw [lg_entry_eq]
  generalize (lg_sl ([.ref (a 0), .int x, .int v, .int b]) ++ List.replicate (4 - (lg_sl ([.ref (a 0), .int x, .int v, .int b])).length) Slot.unset).toArray = ls at hl ⊢
  have hl : lv_has ls 4 [(0, .ref (a 0)), (1, .int x), (2, .int v), (3, .int b)] := hl
  refine lv_aload_n hx hb dX1_change_0 rfl (lv_at hl 0 rfl) ?_
  refine lv_iconst (v := 0) hx hb dX1_change_1 (by decide) ?_
  refine ga_is (y := nI 0) (rfl) ?_
  refine va_put (D := (dC, dI)) (ci := 1) (v := .int (nI 0)) (ty := .int) (C := RX1) (T := TX1) (N := 8) hx hb hts hiw tyX1 tyX1_ok nmX1 hown hK hP hD hS 0 rfl rfl 0 (by decide) hf_29 (fun _ h9 => h9) rfl (by decide +kernel) rfl rfl (Nat.le_of_ble_eq_true rfl) dX1_change_2 (fun H locs hP hD hS => ?_)
  have hP : va_P (dC, dI) vwCl (MW cI cZ a 0 n wv lo cf tf vs nr) H := hP
  have hD : va_D A (MW cI cZ a 0 n wv lo cf tf vs nr) := hD
  refine lv_aload_n hx hb dX1_change_5 rfl (lv_at hl 0 rfl) ?_
  refine lv_iload_n hx hb dX1_change_6 rfl (lv_at hl 1 rfl) ?_
  refine W.callR (r := isn x n) (W.runV (As := [.int x]) (rest := []) ⟨hx, hb, hml, hown, hts⟩ (kX1_isNode l dC dI cI cZ cA a 0 n wv lo cf tf vs nr x) (cwV 1 hts gX1_change_X1_isNode rfl rfl rfl (by decide +kernel) ⟨Nat.le_of_ble_eq_true rfl, Nat.le_of_ble_eq_true rfl⟩) ⟨blindR, va_recv hK hP (ci := 1) (q0 := 0) rfl rfl, preR hP hK⟩ rfl rfl hl.1 rfl (lv_room (Nat.le_of_ble_eq_true rfl)) dX1_change_7 ⟨Nat.zero_le _, Nat.zero_le _⟩) ?_
  refine W.eq (g2 := F0 m 10 ls [.int (isn x n)]) rfl ?_
  refine lv_if_eq (tgt := 20) hx hb dX1_change_10 (by decide) (fun h10 => ?_) (fun h10 => absurd hno h10)
  refine lv_iconst (v := 0) hx hb dX1_change_20 (by decide) ?_
  exact W.zret (v := 0) hx hb hr (by decide) (fun t ht hW => ⟨⟨0, (), rfl, rfl, by rw [ht]; exact hP, va_K.moved hW.alike hK, hD⟩, hS.F ht⟩) hS.2.2 dX1_change_21
set_option maxHeartbeats 4000000 in
set_option maxRecDepth 100000 in
/-- change, a wrong worth -/
theorem kX1_change_w (l : Launch) (dC : Nat → ClassId) (dI : Nat → Nat → Nat) (cI cZ cA : ClassId) (a : Nat → Nat) (sz : Nat) (th : Nat) (n : Nat) (wv : Nat → Int32) (lo : Nat → Int32) (cf : Nat → Nat) (tf : Nat → Nat) (vs : Nat → Int32) (nr : Nat → Nat) (j : Nat) (v b : Int32) (hn4 : n ≤ 400) (hj : j < n) (hno : iw v = 0) : Met l yX1_change wsX1_change ({ frames := 1, cells := 0, slots := 0, locals := 21 }) (va_Pc [.ref (a 0), .int (nI j), .int v, .int b] (WP dC dI (GT cI cZ cA) (MW cI cZ a th n wv lo cf tf vs nr) sz)) (va_Qi (fun r (_ : Unit) => r = 0) (fun (_ : Unit) => WQ dC dI (GT cI cZ cA) (va_A (MW cI cZ a th n wv lo cf tf vs nr) sz) (MW cI cZ a 0 n wv lo cf tf vs nr)) (va_A (MW cI cZ a th n wv lo cf tf vs nr) sz)) 0 0 (va_A (MW cI cZ a th n wv lo cf tf vs nr) sz) := by
  refine Met.ofW (cc := cX1_change) (maxL := 4) (ret := (some .boolean)) (by decide) rfl ?_
  intro p e s m args below meth c s₁ B hml hv
  obtain ⟨rfl, hsz, hP, hK, hD0⟩ := hv
  have hx := B.exec
  have hb := B.bytes
  have hr := B.returns
  have hts := atoms_spec (ws := wsX1_change) B.pre
  have hown : s.vm.findClass RX1 = some m.cls := findClass_of_methodNamed B.named
  have hlocks := B.notSynchronized
  have hf_29 := hts (.fieldLink RX1 29 "GraphSearchModel" "thrown" "I") (by decide +kernel)
  have hf_7 := hts (.fieldLink RX1 7 "GraphSearchModel" "worth" "[I") (by decide +kernel)
  have hf_13 := hts (.fieldLink RX1 13 "GraphSearchModel" "lost" "[Z") (by decide +kernel)
  have hiw : ∀ w ∈ wsX10, w ∈ wsX1_change := by decide +kernel
  subst hsz
  have hD := hD0.self (sz := s.heap.size)
  generalize hAe : va_A (MW cI cZ a th n wv lo cf tf vs nr) s.heap.size = A at hD ⊢
  have hA : ∀ q : Nat, s.heap.size ≤ q → A q := fun q h => by rw [← hAe]; exact Or.inr h
  have hS : va_S A s.heap s.heap [] := va_S.rf
  have hP : va_P (dC, dI) vwCl (MW cI cZ a th n wv lo cf tf vs nr) s.heap := hP
  have hl := lv_entry ([.ref (a 0), .int (nI j), .int v, .int b]) (n := 4) (Nat.le_of_ble_eq_true rfl)
  rw [lg_entry_eq]
  generalize (lg_sl ([.ref (a 0), .int (nI j), .int v, .int b]) ++ List.replicate (4 - (lg_sl ([.ref (a 0), .int (nI j), .int v, .int b])).length) Slot.unset).toArray = ls at hl ⊢
  have hl : lv_has ls 4 [(0, .ref (a 0)), (1, .int (nI j)), (2, .int v), (3, .int b)] := hl
  refine lv_aload_n hx hb dX1_change_0 rfl (lv_at hl 0 rfl) ?_
  refine lv_iconst (v := 0) hx hb dX1_change_1 (by decide) ?_
  refine ga_is (y := nI 0) (rfl) ?_
  refine va_put (D := (dC, dI)) (ci := 1) (v := .int (nI 0)) (ty := .int) (C := RX1) (T := TX1) (N := 8) hx hb hts hiw tyX1 tyX1_ok nmX1 hown hK hP hD hS 0 rfl rfl 0 (by decide) hf_29 (fun _ h9 => h9) rfl (by decide +kernel) rfl rfl (Nat.le_of_ble_eq_true rfl) dX1_change_2 (fun H locs hP hD hS => ?_)
  have hP : va_P (dC, dI) vwCl (MW cI cZ a 0 n wv lo cf tf vs nr) H := hP
  have hD : va_D A (MW cI cZ a 0 n wv lo cf tf vs nr) := hD
  refine lv_aload_n hx hb dX1_change_5 rfl (lv_at hl 0 rfl) ?_
  refine lv_iload_n hx hb dX1_change_6 rfl (lv_at hl 1 rfl) ?_
  refine W.callR (r := isn (nI j) n) (W.runV (As := [.int (nI j)]) (rest := []) ⟨hx, hb, hml, hown, hts⟩ (kX1_isNode l dC dI cI cZ cA a 0 n wv lo cf tf vs nr (nI j)) (cwV 1 hts gX1_change_X1_isNode rfl rfl rfl (by decide +kernel) ⟨Nat.le_of_ble_eq_true rfl, Nat.le_of_ble_eq_true rfl⟩) ⟨blindR, va_recv hK hP (ci := 1) (q0 := 0) rfl rfl, preR hP hK⟩ rfl rfl hl.1 rfl (lv_room (Nat.le_of_ble_eq_true rfl)) dX1_change_7 ⟨Nat.zero_le _, Nat.zero_le _⟩) ?_
  refine W.eq (g2 := F0 m 10 ls [.int (isn (nI j) n)]) rfl ?_
  refine lv_if_eq (tgt := 20) hx hb dX1_change_10 (by decide) (fun h10 => absurd h10 (by rw [isn_1 hj (by omega)]; decide)) (fun h10 => ?_)
  refine lv_iload_n hx hb dX1_change_13 rfl (lv_at hl 2 rfl) ?_
  refine W.callR (r := iw v) (W.runS (As := [.int v]) (rest := []) ⟨hx, hb, hml, hown, hts⟩ (kX1_isWorth l v) (va_cwS 1 hts gX1_change_X1_isWorth rfl rfl rfl (by decide +kernel) ⟨Nat.le_of_ble_eq_true rfl, Nat.le_of_ble_eq_true rfl⟩) ⟨blindT, fun _ _ _ => ⟨rfl, trivial⟩⟩ rfl rfl hl.1 rfl (lv_room (Nat.le_of_ble_eq_true rfl)) dX1_change_14 ⟨Nat.zero_le _, Nat.zero_le _⟩) ?_
  refine W.eq (g2 := F0 m 17 ls [.int (iw v)]) rfl ?_
  refine lv_if_ne (tgt := 22) hx hb dX1_change_17 (by decide) (fun h17 => absurd hno h17) (fun h17 => ?_)
  refine lv_iconst (v := 0) hx hb dX1_change_20 (by decide) ?_
  exact W.zret (v := 0) hx hb hr (by decide) (fun t ht hW => ⟨⟨0, (), rfl, rfl, by rw [ht]; exact hP, va_K.moved hW.alike hK, hD⟩, hS.F ht⟩) hS.2.2 dX1_change_21
set_option maxHeartbeats 4000000 in
set_option maxRecDepth 100000 in
/-- change -/
theorem kX1_change (l : Launch) (dC : Nat → ClassId) (dI : Nat → Nat → Nat) (cI cZ cA : ClassId) (a : Nat → Nat) (sz : Nat) (th : Nat) (n : Nat) (wv : Nat → Int32) (lo : Nat → Int32) (cf : Nat → Nat) (tf : Nat → Nat) (vs : Nat → Int32) (nr : Nat → Nat) (j : Nat) (v b : Int32) (hn4 : n ≤ 400) (hj : j < n) (hv : iw v = 1) (hz : b = 0 ∨ b = 1) : Met l yX1_change wsX1_change ({ frames := 1, cells := 0, slots := 0, locals := 21 }) (va_Pc [.ref (a 0), .int (nI j), .int v, .int b] (WP dC dI (GT cI cZ cA) (MW cI cZ a th n wv lo cf tf vs nr) sz)) (va_Qi (fun r (_ : Unit) => r = 1) (fun (_ : Unit) => WQ dC dI (GT cI cZ cA) (va_A (MW cI cZ a th n wv lo cf tf vs nr) sz) (MW cI cZ a 0 n (upd wv j v) (upd lo j b) cf tf vs nr)) (va_A (MW cI cZ a th n wv lo cf tf vs nr) sz)) 0 0 (va_A (MW cI cZ a th n wv lo cf tf vs nr) sz) := by
  refine Met.ofW (cc := cX1_change) (maxL := 4) (ret := (some .boolean)) (by decide) rfl ?_
  intro p e s m args below meth c s₁ B hml hv
  obtain ⟨rfl, hsz, hP, hK, hD0⟩ := hv
  have hx := B.exec
  have hb := B.bytes
  have hr := B.returns
  have hts := atoms_spec (ws := wsX1_change) B.pre
  have hown : s.vm.findClass RX1 = some m.cls := findClass_of_methodNamed B.named
  have hlocks := B.notSynchronized
  have hf_29 := hts (.fieldLink RX1 29 "GraphSearchModel" "thrown" "I") (by decide +kernel)
  have hf_7 := hts (.fieldLink RX1 7 "GraphSearchModel" "worth" "[I") (by decide +kernel)
  have hf_13 := hts (.fieldLink RX1 13 "GraphSearchModel" "lost" "[Z") (by decide +kernel)
  have hiw : ∀ w ∈ wsX10, w ∈ wsX1_change := by decide +kernel
  subst hsz
  have hD := hD0.self (sz := s.heap.size)
  generalize hAe : va_A (MW cI cZ a th n wv lo cf tf vs nr) s.heap.size = A at hD ⊢
  have hA : ∀ q : Nat, s.heap.size ≤ q → A q := fun q h => by rw [← hAe]; exact Or.inr h
  have hS : va_S A s.heap s.heap [] := va_S.rf
  have hP : va_P (dC, dI) vwCl (MW cI cZ a th n wv lo cf tf vs nr) s.heap := hP
  have hl := lv_entry ([.ref (a 0), .int (nI j), .int v, .int b]) (n := 4) (Nat.le_of_ble_eq_true rfl)
  rw [lg_entry_eq]
  generalize (lg_sl ([.ref (a 0), .int (nI j), .int v, .int b]) ++ List.replicate (4 - (lg_sl ([.ref (a 0), .int (nI j), .int v, .int b])).length) Slot.unset).toArray = ls at hl ⊢
  have hl : lv_has ls 4 [(0, .ref (a 0)), (1, .int (nI j)), (2, .int v), (3, .int b)] := hl
  refine lv_aload_n hx hb dX1_change_0 rfl (lv_at hl 0 rfl) ?_
  refine lv_iconst (v := 0) hx hb dX1_change_1 (by decide) ?_
  refine ga_is (y := nI 0) (rfl) ?_
  refine va_put (D := (dC, dI)) (ci := 1) (v := .int (nI 0)) (ty := .int) (C := RX1) (T := TX1) (N := 8) hx hb hts hiw tyX1 tyX1_ok nmX1 hown hK hP hD hS 0 rfl rfl 0 (by decide) hf_29 (fun _ h9 => h9) rfl (by decide +kernel) rfl rfl (Nat.le_of_ble_eq_true rfl) dX1_change_2 (fun H locs hP hD hS => ?_)
  have hP : va_P (dC, dI) vwCl (MW cI cZ a 0 n wv lo cf tf vs nr) H := hP
  have hD : va_D A (MW cI cZ a 0 n wv lo cf tf vs nr) := hD
  refine lv_aload_n hx hb dX1_change_5 rfl (lv_at hl 0 rfl) ?_
  refine lv_iload_n hx hb dX1_change_6 rfl (lv_at hl 1 rfl) ?_
  refine W.callR (r := isn (nI j) n) (W.runV (As := [.int (nI j)]) (rest := []) ⟨hx, hb, hml, hown, hts⟩ (kX1_isNode l dC dI cI cZ cA a 0 n wv lo cf tf vs nr (nI j)) (cwV 1 hts gX1_change_X1_isNode rfl rfl rfl (by decide +kernel) ⟨Nat.le_of_ble_eq_true rfl, Nat.le_of_ble_eq_true rfl⟩) ⟨blindR, va_recv hK hP (ci := 1) (q0 := 0) rfl rfl, preR hP hK⟩ rfl rfl hl.1 rfl (lv_room (Nat.le_of_ble_eq_true rfl)) dX1_change_7 ⟨Nat.zero_le _, Nat.zero_le _⟩) ?_
  refine W.eq (g2 := F0 m 10 ls [.int (isn (nI j) n)]) rfl ?_
  refine lv_if_eq (tgt := 20) hx hb dX1_change_10 (by decide) (fun h10 => absurd h10 (by rw [isn_1 hj (by omega)]; decide)) (fun h10 => ?_)
  refine lv_iload_n hx hb dX1_change_13 rfl (lv_at hl 2 rfl) ?_
  refine W.callR (r := iw v) (W.runS (As := [.int v]) (rest := []) ⟨hx, hb, hml, hown, hts⟩ (kX1_isWorth l v) (va_cwS 1 hts gX1_change_X1_isWorth rfl rfl rfl (by decide +kernel) ⟨Nat.le_of_ble_eq_true rfl, Nat.le_of_ble_eq_true rfl⟩) ⟨blindT, fun _ _ _ => ⟨rfl, trivial⟩⟩ rfl rfl hl.1 rfl (lv_room (Nat.le_of_ble_eq_true rfl)) dX1_change_14 ⟨Nat.zero_le _, Nat.zero_le _⟩) ?_
  refine W.eq (g2 := F0 m 17 ls [.int (iw v)]) rfl ?_
  refine lv_if_ne (tgt := 22) hx hb dX1_change_17 (by decide) (fun h17 => ?_) (fun h17 => absurd h17 (by rw [hv]; decide))
  refine lv_aload_n hx hb dX1_change_22 rfl (lv_at hl 0 rfl) ?_
  refine va_get (D := (dC, dI)) (ci := 1) (v := .ref (a 1)) (C := RX1) (T := TX1) (N := 8) hx hb hts hiw hown hK hP 0 rfl rfl 2 (by decide) hf_7 (fun _ h9 => h9) rfl dX1_change_23 ?_
  refine lv_iload_n hx hb dX1_change_26 rfl (lv_at hl 1 rfl) ?_
  refine lv_iload_n hx hb dX1_change_27 rfl (lv_at hl 2 rfl) ?_
  refine ga_iast hx hb hK hP hD hS 1 0 rfl rfl j (by omega) (by decide) rfl (ws' := MW cI cZ a 0 n (upd wv j v) lo cf tf vs nr) rfl dX1_change_28 (fun H locs hP hD hS => ?_)
  refine lv_aload_n hx hb dX1_change_29 rfl (lv_at hl 0 rfl) ?_
  refine va_get (D := (dC, dI)) (ci := 1) (v := .ref (a 2)) (C := RX1) (T := TX1) (N := 8) hx hb hts hiw hown hK hP 0 rfl rfl 3 (by decide) hf_13 (fun _ h9 => h9) rfl dX1_change_30 ?_
  refine lv_iload_n hx hb dX1_change_33 rfl (lv_at hl 1 rfl) ?_
  refine lv_iload_n hx hb dX1_change_34 rfl (lv_at hl 3 rfl) ?_
  refine ga_zast hx hb hK hP hD hS 2 1 rfl rfl j hz (by omega) (by decide) rfl (ws' := MW cI cZ a 0 n (upd wv j v) (upd lo j b) cf tf vs nr) rfl dX1_change_35 (fun H locs hP hD hS => ?_)
  refine lv_iconst (v := 1) hx hb dX1_change_36 (by decide) ?_
  exact W.zret (v := 1) hx hb hr (by decide) (fun t ht hW => ⟨⟨1, (), rfl, rfl, by rw [ht]; exact hP, va_K.moved hW.alike hK, hD⟩, hS.F ht⟩) hS.2.2 dX1_change_37
set_option maxHeartbeats 4000000 in
set_option maxRecDepth 100000 in
/-- look -/
theorem kX1_look (l : Launch) (dC : Nat → ClassId) (dI : Nat → Nat → Nat) (cI cZ cA : ClassId) (a : Nat → Nat) (sz : Nat) (th : Nat) (n : Nat) (wv : Nat → Int32) (lo : Nat → Int32) (cf : Nat → Nat) (tf : Nat → Nat) (vs : Nat → Int32) (nr : Nat → Nat) (v : Int32) (hn4 : n ≤ 400) : Met l yX1_look wsX1_look ({ frames := 0, cells := 0, slots := 0, locals := 0 }) (va_Pc [.ref (a 0), .int v] (WP dC dI (GT cI cZ cA) (MW cI cZ a th n wv lo cf tf vs nr) sz)) (va_Qi (fun r (_ : Unit) => r = lok n (sum_ cf n) v) (fun (_ : Unit) => WQ dC dI (GT cI cZ cA) (va_A (MW cI cZ a th n wv lo cf tf vs nr) sz) (MW cI cZ a 0 n wv lo cf tf vs nr)) (va_A (MW cI cZ a th n wv lo cf tf vs nr) sz)) 0 0 (va_A (MW cI cZ a th n wv lo cf tf vs nr) sz) := by
  refine Met.ofW (cc := cX1_look) (maxL := 4) (ret := (some .int)) (by decide) rfl ?_
  intro p e s m args below meth c s₁ B hml hv
  obtain ⟨rfl, hsz, hP, hK, hD0⟩ := hv
  have hx := B.exec
  have hb := B.bytes
  have hr := B.returns
  have hts := atoms_spec (ws := wsX1_look) B.pre
  have hown : s.vm.findClass RX1 = some m.cls := findClass_of_methodNamed B.named
  have hlocks := B.notSynchronized
  have hf_29 := hts (.fieldLink RX1 29 "GraphSearchModel" "thrown" "I") (by decide +kernel)
  have hf_33 := hts (.fieldLink RX1 33 "GraphSearchModel" "nodes" "I") (by decide +kernel)
  have hf_17 := hts (.fieldLink RX1 17 "GraphSearchModel" "many" "[I") (by decide +kernel)
  have hiw : ∀ w ∈ wsX10, w ∈ wsX1_look := by decide +kernel
  subst hsz
  have hD := hD0.self (sz := s.heap.size)
  generalize hAe : va_A (MW cI cZ a th n wv lo cf tf vs nr) s.heap.size = A at hD ⊢
  have hA : ∀ q : Nat, s.heap.size ≤ q → A q := fun q h => by rw [← hAe]; exact Or.inr h
  have hS : va_S A s.heap s.heap [] := va_S.rf
  have hP : va_P (dC, dI) vwCl (MW cI cZ a th n wv lo cf tf vs nr) s.heap := hP
  have hl := lv_entry ([.ref (a 0), .int v]) (n := 4) (Nat.le_of_ble_eq_true rfl)
  rw [lg_entry_eq]
  generalize (lg_sl ([.ref (a 0), .int v]) ++ List.replicate (4 - (lg_sl ([.ref (a 0), .int v])).length) Slot.unset).toArray = ls at hl ⊢
  have hl : lv_has ls 4 [(0, .ref (a 0)), (1, .int v)] := hl
  refine lv_aload_n hx hb dX1_look_0 rfl (lv_at hl 0 rfl) ?_
  refine lv_iconst (v := 0) hx hb dX1_look_1 (by decide) ?_
  refine ga_is (y := nI 0) (rfl) ?_
  refine va_put (D := (dC, dI)) (ci := 1) (v := .int (nI 0)) (ty := .int) (C := RX1) (T := TX1) (N := 8) hx hb hts hiw tyX1 tyX1_ok nmX1 hown hK hP hD hS 0 rfl rfl 0 (by decide) hf_29 (fun _ h9 => h9) rfl (by decide +kernel) rfl rfl (Nat.le_of_ble_eq_true rfl) dX1_look_2 (fun H locs hP hD hS => ?_)
  have hP : va_P (dC, dI) vwCl (MW cI cZ a 0 n wv lo cf tf vs nr) H := hP
  have hD : va_D A (MW cI cZ a 0 n wv lo cf tf vs nr) := hD
  refine lv_iconst (v := 0) hx hb dX1_look_5 (by decide) ?_
  refine ga_is (y := nI 0) (rfl) ?_
  refine lv_istore_n (lv' := [(2, .int (nI 0)), (0, .ref (a 0)), (1, .int v)]) hx hb dX1_look_6 rfl hl (by decide) rfl (fun ls hl => ?_)
  refine lv_iconst (v := 0) hx hb dX1_look_7 (by decide) ?_
  refine ga_is (y := nI 0) (rfl) ?_
  refine lv_istore_n (lv' := [(3, .int (nI 0)), (2, .int (nI 0)), (0, .ref (a 0)), (1, .int v)]) hx hb dX1_look_8 rfl hl (by decide) rfl (fun ls hl => ?_)
  have loop : ∀ k i : Nat, i + k = n → ∀ ls : Array Slot, lv_has ls 4 [(3, .int (nI i)), (2, .int (nI (sum_ cf i))), (0, .ref (a 0)), (1, .int v)] → W p l e (headSpec wsX1_look (({ frames := 0, cells := 0, slots := 0, locals := 0 }) : Room)).room s m ([.ref (a 0), .int v] : List Value).toArray below meth c H locs 0 0 (MQ below (va_Qi (fun r (_ : Unit) => r = lok n (sum_ cf n) v) (fun (_ : Unit) => WQ dC dI (GT cI cZ cA) A (MW cI cZ a 0 n wv lo cf tf vs nr)) A) ([.ref (a 0), .int v] : List Value).toArray s 0 0 A) (F0 m 9 ls []) := by
    intro k
    induction k with
    | zero =>
      intro i hi ls hl
      obtain rfl : n = i := by omega
      refine lv_iload_n hx hb dX1_look_9 rfl (lv_at hl 0 rfl) ?_
      refine lv_aload_n hx hb dX1_look_10 rfl (lv_at hl 2 rfl) ?_
      refine va_get (D := (dC, dI)) (ci := 1) (v := .int (nI n)) (C := RX1) (T := TX1) (N := 8) hx hb hts hiw hown hK hP 0 rfl rfl 1 (by decide) hf_33 (fun _ h9 => h9) rfl dX1_look_11 ?_
      refine lv_icmp_ge (tgt := 32) hx hb dX1_look_14 (by decide) (fun h14 => ?_) (fun h14 => absurd (Int32.le_refl _) h14)
      refine lv_iload_n hx hb dX1_look_32 rfl (lv_at hl 3 rfl) ?_
      refine lv_if_ne (tgt := 43) hx hb dX1_look_33 (by decide) (fun h33 => ?_) (fun h33 => ?_)
      · refine lv_iload_n hx hb dX1_look_43 rfl (lv_at hl 3 rfl) ?_
        refine lv_iconst (v := 1) hx hb dX1_look_44 (by decide) ?_
        refine lv_icmp_ne (tgt := 52) hx hb dX1_look_45 (by decide) (fun h45 => ?_) (fun h45 => ?_)
        · refine lv_iconst (v := (-1)) hx hb dX1_look_52 (by decide) ?_
          exact W.iret (v := (-1)) hx hb hr (fun t ht hW => ⟨⟨(-1), (), rfl, by rw [lok, if_neg h33, if_neg h45], by rw [ht]; exact hP, va_K.moved hW.alike hK, hD⟩, hS.F ht⟩) hS.2.2 dX1_look_53
        · refine lv_iload_n hx hb dX1_look_48 rfl (lv_at hl 1 rfl) ?_
          refine lv_goto (tgt := 53) hx hb dX1_look_49 (by decide) ?_
          exact W.iret (v := (nI (sum_ cf n))) hx hb hr (fun t ht hW => ⟨⟨(nI (sum_ cf n)), (), rfl, by rw [lok, if_neg h33, if_pos h45], by rw [ht]; exact hP, va_K.moved hW.alike hK, hD⟩, hS.F ht⟩) hS.2.2 dX1_look_53
      · refine lv_aload_n hx hb dX1_look_36 rfl (lv_at hl 2 rfl) ?_
        refine va_get (D := (dC, dI)) (ci := 1) (v := .int (nI n)) (C := RX1) (T := TX1) (N := 8) hx hb hts hiw hown hK hP 0 rfl rfl 1 (by decide) hf_33 (fun _ h9 => h9) rfl dX1_look_37 ?_
        refine lv_goto (tgt := 53) hx hb dX1_look_40 (by decide) ?_
        exact W.iret (v := (nI n)) hx hb hr (fun t ht hW => ⟨⟨(nI n), (), rfl, by rw [lok, if_pos h33], by rw [ht]; exact hP, va_K.moved hW.alike hK, hD⟩, hS.F ht⟩) hS.2.2 dX1_look_53
    | succ k ih =>
      intro i hi ls hl
      refine lv_iload_n hx hb dX1_look_9 rfl (lv_at hl 0 rfl) ?_
      refine lv_aload_n hx hb dX1_look_10 rfl (lv_at hl 2 rfl) ?_
      refine va_get (D := (dC, dI)) (ci := 1) (v := .int (nI n)) (C := RX1) (T := TX1) (N := 8) hx hb hts hiw hown hK hP 0 rfl rfl 1 (by decide) hf_33 (fun _ h9 => h9) rfl dX1_look_11 ?_
      refine lv_icmp_ge (tgt := 32) hx hb dX1_look_14 (by decide) (fun h14 => absurd h14 (nI_ge (by omega) (by omega))) (fun h14 => ?_)
      refine lv_iload_n hx hb dX1_look_17 rfl (lv_at hl 1 rfl) ?_
      refine lv_aload_n hx hb dX1_look_18 rfl (lv_at hl 2 rfl) ?_
      refine va_get (D := (dC, dI)) (ci := 1) (v := .ref (a 3)) (C := RX1) (T := TX1) (N := 8) hx hb hts hiw hown hK hP 0 rfl rfl 4 (by decide) hf_17 (fun _ h9 => h9) rfl dX1_look_19 ?_
      refine lv_iload_n hx hb dX1_look_22 rfl (lv_at hl 0 rfl) ?_
      refine ga_iald hx hb hK hP 3 0 rfl rfl i (v := nI (cf i)) rfl (by omega) (by decide) dX1_look_23 ?_
      refine lv_iadd hx hb dX1_look_24 ?_
      refine ga_is (y := nI (sum_ cf (i + 1))) (nI_add _ _) ?_
      refine lv_istore_n (lv' := [(2, .int (nI (sum_ cf (i + 1)))), (3, .int (nI i)), (0, .ref (a 0)), (1, .int v)]) hx hb dX1_look_25 rfl hl (by decide) rfl (fun ls hl => ?_)
      refine lv_iinc (v := nI (i + 1)) (lv' := [(3, .int (nI (i + 1))), (2, .int (nI (sum_ cf (i + 1)))), (0, .ref (a 0)), (1, .int v)]) hx hb dX1_look_26 hl (k := 1) rfl (nI_1 i) (by decide) rfl (fun ls hl => ?_)
      refine lv_goto (tgt := 9) hx hb dX1_look_29 (by decide) ?_
      exact ih (i + 1) (by omega) ls (lv_sub hl [0, 1, 2, 3] rfl)
  exact loop n 0 (by omega) ls (lv_sub hl [0, 1, 2, 3] rfl)
