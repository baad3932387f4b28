/-- what a throw needs of the state: Throwable's two statics, the tables' words on the exceptions, the five texts -/
def EX (sa : Nat → Nat) (A : Nat → Prop) (U : State) (H : Heap) : Prop :=
  (vx_Zq Bundle.tN "UNASSIGNED_STACK" Bundle.steD A U H ∧ vx_Zq Bundle.tN "SUPPRESSED_SENTINEL" Bundle.listD A U H) ∧
  (va_Nw (.castable "java/lang/IllegalArgumentException" "java/lang/IllegalArgumentException") U ∧ va_Nw (.castable "java/lang/IllegalStateException" "java/lang/IllegalStateException") U ∧ va_Nc "java/lang/IllegalStateException" "java/lang/IllegalArgumentException" U) ∧
  (va_Nw (.declares ⟨"java/lang/RuntimeException", "<init>", "(Ljava/lang/String;)V"⟩) U ∧ va_Nw (.declares ⟨"java/lang/Exception", "<init>", "(Ljava/lang/String;)V"⟩) U ∧ va_Nw (.declares ⟨"java/lang/Throwable", "<init>", "(Ljava/lang/String;)V"⟩) U) ∧
  (vk_R RX0 53 "the worth is not -500 .. 500" (sa 0) U ∧ vk_R RX0 60 "there are 400 nodes" (sa 1) U ∧ vk_R RX0 69 "there are no such nodes" (sa 2) U ∧ vk_R RX0 71 "the node has 6 moves" (sa 3) U ∧ vk_R RX0 104 "there is no such node, or the depth is not 0 .. 7" (sa 4) U)
theorem EX.warm {sa : Nat → Nat} {A : Nat → Prop} {s U : State} {H : Heap} (hW : s.WarmedH U.vm) (h : EX sa A s H) : EX sa A U H := by
  obtain ⟨⟨a1, a2⟩, ⟨b1, b2, b3⟩, ⟨c1, c2, c3⟩, d1, d2, d3, d4, d5⟩ := h
  exact ⟨⟨vx_Zq.moved hW.alike a1, vx_Zq.moved hW.alike a2⟩, ⟨va_Nw.warmC hW b1, va_Nw.warmC hW b2, va_Nc.moved hW.alike b3⟩, ⟨va_Nw.warmD hW c1, va_Nw.warmD hW c2, va_Nw.warmD hW c3⟩, d1.warm hW, d2.warm hW, d3.warm hW, d4.warm hW, d5.warm hW⟩
theorem EX.kept {sa : Nat → Nat} {A : Nat → Prop} {s : State} {H H1 : Heap} (h : EX sa A s H) (hq : ∀ a : Nat, a < H.size → ¬ A a → H1[a]? = H[a]?) : EX sa A s H1 := by
  obtain ⟨⟨a1, a2⟩, hb⟩ := h
  exact ⟨⟨a1.kept hq, a2.kept hq⟩, hb⟩
theorem EX.narrow {sa : Nat → Nat} {A B : Nat → Prop} {s : State} {H : Heap} (h : EX sa A s H) (hAB : ∀ q, B q → A q) : EX sa B s H := by
  obtain ⟨⟨a1, a2⟩, hb⟩ := h
  exact ⟨⟨a1.narrow hAB, a2.narrow hAB⟩, hb⟩
abbrev TP (dC : Nat → ClassId) (dI : Nat → Nat → Nat) (tys : List (ClassId × FieldType)) (ws : va_W) (sz : Nat) (sa : Nat → Nat) : State → Prop := fun U => U.heap.size = sz ∧ (va_P (dC, dI) vwCl ws U.heap ∧ va_K (dC, dI) vwCl tys U) ∧ EX sa (fun _ => False) U U.heap
abbrev TXc (E0 : String) (sz : Nat) : String → State → State → Prop := vx_X (fun _ : Unit => True) (fun E _ _ => E = E0) (fun q => sz ≤ q)
abbrev TQi (sz : Nat) : Array Value → State → Outcome → State → Prop := va_Qi (fun (_ : Int32) (_ : Unit) => False) (fun _ _ => True) (fun q => sz ≤ q)
abbrev TQv (sz : Nat) : Array Value → State → Outcome → State → Prop := va_Qv (fun (_ : Unit) => False) (fun _ _ => True) (fun q => sz ≤ q)
theorem blindTP {dC : Nat → ClassId} {dI : Nat → Nat → Nat} {tys : List (ClassId × FieldType)} {ws : va_W} {sz : Nat} {sa : Nat → Nat} {av : List Value} : FrameBlind (va_Pc av (TP dC dI tys ws sz sa)) := fun a U g mk q => by
  obtain ⟨q0, q1, ⟨qP, qK⟩, qE⟩ := q
  exact ⟨q0, q1, ⟨qP, va_K.moved (u := U) (U := U.calling g mk a) (Vm.Alike.refl U.vm) qK⟩, EX.warm (U := U.calling g mk a) (State.WarmedH.refl U) qE⟩
theorem preTP {dC : Nat → ClassId} {dI : Nat → Nat → Nat} {tys : List (ClassId × FieldType)} {ws : va_W} {sa : Nat → Nat} {av : List Value} {s : State} {H : Heap} (hP : va_P (dC, dI) vwCl ws H) (hK : va_K (dC, dI) vwCl tys s) (hE : EX sa (fun _ => False) s H) : ∀ U : State, U.heap = H → s.WarmedH U.vm → va_Pc av (TP dC dI tys ws H.size sa) av.toArray U :=
  fun U hU hW => ⟨rfl, by rw [hU], ⟨by rw [hU]; exact hP, va_K.moved hW.alike hK⟩, by rw [hU]; exact hE.warm hW⟩
set_option maxHeartbeats 4000000 in
set_option maxRecDepth 100000 in
/-- refuseWrongQuestion throws -/
theorem tX0_refuse (l : Launch) (hl9 : l.stackTraces = false) (dC : Nat → ClassId) (dI : Nat → Nat → Nat) (cI cZ cA : ClassId) (a : Nat → Nat) (sz : Nat) (sa : Nat → Nat) (n : Nat) (am : Nat) (rf : Nat) (mk : Nat) (wv : Nat → Int32) (lo : Nat → Int32) (cf : Nat → Nat) (tf : Nat → Nat) (T : Nat → Nat → Int32) (mt : Nat → Nat) (im : Nat → Int32) (x d : Int32) (hB : Bad n x d) : vx_Met l yX0_refuseWrongQuestion wsX0_refuseWrongQuestion ({ frames := 6, cells := 1, slots := 6, locals := 82 }) (va_Pc [.ref (a 0), .int x, .int d] (TP dC dI (GT cI cZ cA) (XW cI cZ cA a n am rf mk wv lo cf tf T mt im) sz sa)) (TQv sz) (TXc "java/lang/IllegalArgumentException" sz) 1 6 (fun q => sz ≤ q) := by
  refine vx_ofW (cc := cX0_refuseWrongQuestion) (maxL := 3) (ret := none) (by decide) rfl ?_
  intro p e s m args below meth c s₁ B hml htab hv
  obtain ⟨rfl, hsz, ⟨hP, hK⟩, hE⟩ := hv
  have hx := B.exec
  have hb := B.bytes
  have hr := B.returns
  have hts := atoms_spec (ws := wsX0_refuseWrongQuestion) B.pre
  have hown : s.vm.findClass RX0 = some m.cls := findClass_of_methodNamed B.named
  have hlocks := B.notSynchronized
  subst hsz
  have hl := lv_entry ([.ref (a 0), .int x, .int d]) (n := 3) (Nat.le_of_ble_eq_true rfl)
  rw [lg_entry_eq]
  generalize (lg_sl ([.ref (a 0), .int x, .int d]) ++ List.replicate (3 - (lg_sl ([.ref (a 0), .int x, .int d])).length) Slot.unset).toArray = ls at hl ⊢
  have hl : lv_has ls 3 [(0, .ref (a 0)), (1, .int x), (2, .int d)] := hl
  refine lv_aload_n hx hb dX0_refuseWrongQuestion_0 rfl (lv_at hl 0 rfl) ?_
  refine lv_iload_n hx hb dX0_refuseWrongQuestion_1 rfl (lv_at hl 1 rfl) ?_
  refine W.callR (r := isn x n) (W.runV (As := [.int x]) (rest := []) ⟨hx, hb, hml, hown, hts⟩ (kX0_isNode l dC dI cI cZ cA a n am rf mk wv lo cf tf T mt im x) (cwV 1 hts gX0_refuseWrongQuestion_X0_isNode rfl rfl rfl (by decide +kernel) ⟨Nat.le_of_ble_eq_true rfl, Nat.le_of_ble_eq_true rfl⟩) ⟨blindR, va_recv hK hP (ci := 0) (q0 := 0) rfl rfl, preR hP hK⟩ rfl rfl hl.1 rfl (lv_room (Nat.le_of_ble_eq_true rfl)) dX0_refuseWrongQuestion_2 ⟨Nat.zero_le _, Nat.zero_le _⟩) ?_
  refine W.eq (g2 := F0 m 5 ls [.int (isn x n)]) rfl ?_
  refine lv_if_eq (tgt := 18) hx hb dX0_refuseWrongQuestion_5 (by decide) (fun h5 => ?_) (fun h5 => ?_)
  · exact vx_throwS hx hb hl9 (own := RX0) (cls := "java/lang/IllegalArgumentException") (text := "there is no such node, or the depth is not 0 .. 7") (names := ["java/lang/RuntimeException", "java/lang/Exception"]) (ik := 51) (is := 104) (ic := 55) (sa := sa 4) (A := fun _ => False) hown (by decide) (by decide) (hts (.classLink RX0 51 "java/lang/IllegalArgumentException") (by decide +kernel)) (hts (.initialized "java/lang/IllegalArgumentException") (by decide +kernel)) (hE.2.2.2.2.2.2.2) (vx_hat (L := vx_atS RX0 55 "java/lang/IllegalArgumentException" ["java/lang/RuntimeException", "java/lang/Exception"]) (B := [.castable "java/lang/IllegalArgumentException" "java/lang/IllegalArgumentException", .declares ⟨"java/lang/RuntimeException", "<init>", "(Ljava/lang/String;)V"⟩, .declares ⟨"java/lang/Exception", "<init>", "(Ljava/lang/String;)V"⟩, .declares ⟨"java/lang/Throwable", "<init>", "(Ljava/lang/String;)V"⟩]) (fun w hw => hts w ((by decide +kernel : ∀ w ∈ (vx_atS RX0 55 "java/lang/IllegalArgumentException" ["java/lang/RuntimeException", "java/lang/Exception"]).filter goodWord, w ∈ wsX0_refuseWrongQuestion) w hw)) (by decide +kernel) (vx_c (va_Nw.use rfl hE.2.1.1) (vx_c (va_Nw.use rfl hE.2.2.1.1) (vx_c (va_Nw.use rfl hE.2.2.1.2.1) (vx_c (va_Nw.use rfl hE.2.2.1.2.2) vx_n))))) (by decide +kernel) hE.1.1 hE.1.2 va_S.rf (hl.1.trans hml.symm) dX0_refuseWrongQuestion_18 dX0_refuseWrongQuestion_21 dX0_refuseWrongQuestion_22 dX0_refuseWrongQuestion_24 dX0_refuseWrongQuestion_27 (fun x hx => (htab x hx).elim) (Nat.le_of_ble_eq_true rfl) (Nat.le_of_ble_eq_true rfl) (Nat.le_of_ble_eq_true rfl) (Nat.le_of_ble_eq_true rfl) hlocks (fun t hA h1 h2 => ⟨(), trivial, rfl, h1, fun q hq _ => h2 q hq⟩) (fun _ h => nomatch h) (Nat.le_of_ble_eq_true rfl) (Nat.le_of_ble_eq_true rfl)
  · refine lv_iload_n hx hb dX0_refuseWrongQuestion_8 rfl (lv_at hl 2 rfl) ?_
    refine lv_if_lt (tgt := 18) hx hb dX0_refuseWrongQuestion_9 (by decide) (fun h9 => ?_) (fun h9 => ?_)
    · exact vx_throwS hx hb hl9 (own := RX0) (cls := "java/lang/IllegalArgumentException") (text := "there is no such node, or the depth is not 0 .. 7") (names := ["java/lang/RuntimeException", "java/lang/Exception"]) (ik := 51) (is := 104) (ic := 55) (sa := sa 4) (A := fun _ => False) hown (by decide) (by decide) (hts (.classLink RX0 51 "java/lang/IllegalArgumentException") (by decide +kernel)) (hts (.initialized "java/lang/IllegalArgumentException") (by decide +kernel)) (hE.2.2.2.2.2.2.2) (vx_hat (L := vx_atS RX0 55 "java/lang/IllegalArgumentException" ["java/lang/RuntimeException", "java/lang/Exception"]) (B := [.castable "java/lang/IllegalArgumentException" "java/lang/IllegalArgumentException", .declares ⟨"java/lang/RuntimeException", "<init>", "(Ljava/lang/String;)V"⟩, .declares ⟨"java/lang/Exception", "<init>", "(Ljava/lang/String;)V"⟩, .declares ⟨"java/lang/Throwable", "<init>", "(Ljava/lang/String;)V"⟩]) (fun w hw => hts w ((by decide +kernel : ∀ w ∈ (vx_atS RX0 55 "java/lang/IllegalArgumentException" ["java/lang/RuntimeException", "java/lang/Exception"]).filter goodWord, w ∈ wsX0_refuseWrongQuestion) w hw)) (by decide +kernel) (vx_c (va_Nw.use rfl hE.2.1.1) (vx_c (va_Nw.use rfl hE.2.2.1.1) (vx_c (va_Nw.use rfl hE.2.2.1.2.1) (vx_c (va_Nw.use rfl hE.2.2.1.2.2) vx_n))))) (by decide +kernel) hE.1.1 hE.1.2 va_S.rf (hl.1.trans hml.symm) dX0_refuseWrongQuestion_18 dX0_refuseWrongQuestion_21 dX0_refuseWrongQuestion_22 dX0_refuseWrongQuestion_24 dX0_refuseWrongQuestion_27 (fun x hx => (htab x hx).elim) (Nat.le_of_ble_eq_true rfl) (Nat.le_of_ble_eq_true rfl) (Nat.le_of_ble_eq_true rfl) (Nat.le_of_ble_eq_true rfl) hlocks (fun t hA h1 h2 => ⟨(), trivial, rfl, h1, fun q hq _ => h2 q hq⟩) (fun _ h => nomatch h) (Nat.le_of_ble_eq_true rfl) (Nat.le_of_ble_eq_true rfl)
    · refine lv_iload_n hx hb dX0_refuseWrongQuestion_12 rfl (lv_at hl 2 rfl) ?_
      refine lv_bipush (v := 7) hx hb dX0_refuseWrongQuestion_13 (by decide) ?_
      refine lv_icmp_le (tgt := 28) hx hb dX0_refuseWrongQuestion_15 (by decide) (fun h15 => absurd h15 (fun q => by have z := (hB.resolve_left h5).resolve_left h9; rw [Int32.lt_iff_toInt_lt] at z; rw [Int32.le_iff_toInt_le] at q; omega)) (fun h15 => ?_)
      exact vx_throwS hx hb hl9 (own := RX0) (cls := "java/lang/IllegalArgumentException") (text := "there is no such node, or the depth is not 0 .. 7") (names := ["java/lang/RuntimeException", "java/lang/Exception"]) (ik := 51) (is := 104) (ic := 55) (sa := sa 4) (A := fun _ => False) hown (by decide) (by decide) (hts (.classLink RX0 51 "java/lang/IllegalArgumentException") (by decide +kernel)) (hts (.initialized "java/lang/IllegalArgumentException") (by decide +kernel)) (hE.2.2.2.2.2.2.2) (vx_hat (L := vx_atS RX0 55 "java/lang/IllegalArgumentException" ["java/lang/RuntimeException", "java/lang/Exception"]) (B := [.castable "java/lang/IllegalArgumentException" "java/lang/IllegalArgumentException", .declares ⟨"java/lang/RuntimeException", "<init>", "(Ljava/lang/String;)V"⟩, .declares ⟨"java/lang/Exception", "<init>", "(Ljava/lang/String;)V"⟩, .declares ⟨"java/lang/Throwable", "<init>", "(Ljava/lang/String;)V"⟩]) (fun w hw => hts w ((by decide +kernel : ∀ w ∈ (vx_atS RX0 55 "java/lang/IllegalArgumentException" ["java/lang/RuntimeException", "java/lang/Exception"]).filter goodWord, w ∈ wsX0_refuseWrongQuestion) w hw)) (by decide +kernel) (vx_c (va_Nw.use rfl hE.2.1.1) (vx_c (va_Nw.use rfl hE.2.2.1.1) (vx_c (va_Nw.use rfl hE.2.2.1.2.1) (vx_c (va_Nw.use rfl hE.2.2.1.2.2) vx_n))))) (by decide +kernel) hE.1.1 hE.1.2 va_S.rf (hl.1.trans hml.symm) dX0_refuseWrongQuestion_18 dX0_refuseWrongQuestion_21 dX0_refuseWrongQuestion_22 dX0_refuseWrongQuestion_24 dX0_refuseWrongQuestion_27 (fun x hx => (htab x hx).elim) (Nat.le_of_ble_eq_true rfl) (Nat.le_of_ble_eq_true rfl) (Nat.le_of_ble_eq_true rfl) (Nat.le_of_ble_eq_true rfl) hlocks (fun t hA h1 h2 => ⟨(), trivial, rfl, h1, fun q hq _ => h2 q hq⟩) (fun _ h => nomatch h) (Nat.le_of_ble_eq_true rfl) (Nat.le_of_ble_eq_true rfl)
set_option maxHeartbeats 4000000 in
set_option maxRecDepth 100000 in
/-- node throws -/
theorem tX0_node_w (l : Launch) (hl9 : l.stackTraces = false) (dC : Nat → ClassId) (dI : Nat → Nat → Nat) (cI cZ cA : ClassId) (a : Nat → Nat) (sz : Nat) (sa : Nat → Nat) (n : Nat) (am : Nat) (rf : Nat) (mk : Nat) (wv : Nat → Int32) (lo : Nat → Int32) (cf : Nat → Nat) (tf : Nat → Nat) (T : Nat → Nat → Int32) (mt : Nat → Nat) (im : Nat → Int32) (v b : Int32) (hv : iw v = 0) : vx_Met l yX0_node wsX0_node ({ frames := 6, cells := 1, slots := 6, locals := 82 }) (va_Pc [.ref (a 0), .int v, .int b] (TP dC dI (GT cI cZ cA) (XW cI cZ cA a n am rf mk wv lo cf tf T mt im) sz sa)) (TQi sz) (TXc "java/lang/IllegalArgumentException" sz) 1 6 (fun q => sz ≤ q) := by
  refine vx_ofW (cc := cX0_node) (maxL := 4) (ret := (some .int)) (by decide) rfl ?_
  intro p e s m args below meth c s₁ B hml htab hv
  obtain ⟨rfl, hsz, ⟨hP, hK⟩, hE⟩ := hv
  have hx := B.exec
  have hb := B.bytes
  have hr := B.returns
  have hts := atoms_spec (ws := wsX0_node) B.pre
  have hown : s.vm.findClass RX0 = some m.cls := findClass_of_methodNamed B.named
  have hlocks := B.notSynchronized
  subst hsz
  have hf_23 := hts (.fieldLink RX0 23 "GraphSearch" "nodeCount" "I") (by decide +kernel)
  have hf_9 := hts (.fieldLink RX0 9 "GraphSearch" "worths" "[I") (by decide +kernel)
  have hf_13 := hts (.fieldLink RX0 13 "GraphSearch" "losts" "[Z") (by decide +kernel)
  have hiw : ∀ w ∈ wsX00, w ∈ wsX0_node := by decide +kernel
  have hl := lv_entry ([.ref (a 0), .int v, .int b]) (n := 4) (Nat.le_of_ble_eq_true rfl)
  rw [lg_entry_eq]
  generalize (lg_sl ([.ref (a 0), .int v, .int b]) ++ List.replicate (4 - (lg_sl ([.ref (a 0), .int v, .int b])).length) Slot.unset).toArray = ls at hl ⊢
  have hl : lv_has ls 4 [(0, .ref (a 0)), (1, .int v), (2, .int b)] := hl
  refine lv_iload_n hx hb dX0_node_0 rfl (lv_at hl 1 rfl) ?_
  refine W.callR (r := iw v) (W.runS (As := [.int v]) (rest := []) ⟨hx, hb, hml, hown, hts⟩ (kX0_isWorth l v) (va_cwS 1 hts gX0_node_X0_isWorth rfl rfl rfl (by decide +kernel) ⟨Nat.le_of_ble_eq_true rfl, Nat.le_of_ble_eq_true rfl⟩) ⟨blindT, fun _ _ _ => ⟨rfl, trivial⟩⟩ rfl rfl hl.1 rfl (lv_room (Nat.le_of_ble_eq_true rfl)) dX0_node_1 ⟨Nat.zero_le _, Nat.zero_le _⟩) ?_
  refine W.eq (g2 := F0 m 4 ls [.int (iw v)]) rfl ?_
  refine lv_if_ne (tgt := 17) hx hb dX0_node_4 (by decide) (fun h4 => absurd hv h4) (fun h4 => ?_)
  exact vx_throwS hx hb hl9 (own := RX0) (cls := "java/lang/IllegalArgumentException") (text := "the worth is not -500 .. 500") (names := ["java/lang/RuntimeException", "java/lang/Exception"]) (ik := 51) (is := 53) (ic := 55) (sa := sa 0) (A := fun _ => False) hown (by decide) (by decide) (hts (.classLink RX0 51 "java/lang/IllegalArgumentException") (by decide +kernel)) (hts (.initialized "java/lang/IllegalArgumentException") (by decide +kernel)) (hE.2.2.2.1) (vx_hat (L := vx_atS RX0 55 "java/lang/IllegalArgumentException" ["java/lang/RuntimeException", "java/lang/Exception"]) (B := [.castable "java/lang/IllegalArgumentException" "java/lang/IllegalArgumentException", .declares ⟨"java/lang/RuntimeException", "<init>", "(Ljava/lang/String;)V"⟩, .declares ⟨"java/lang/Exception", "<init>", "(Ljava/lang/String;)V"⟩, .declares ⟨"java/lang/Throwable", "<init>", "(Ljava/lang/String;)V"⟩]) (fun w hw => hts w ((by decide +kernel : ∀ w ∈ (vx_atS RX0 55 "java/lang/IllegalArgumentException" ["java/lang/RuntimeException", "java/lang/Exception"]).filter goodWord, w ∈ wsX0_node) w hw)) (by decide +kernel) (vx_c (va_Nw.use rfl hE.2.1.1) (vx_c (va_Nw.use rfl hE.2.2.1.1) (vx_c (va_Nw.use rfl hE.2.2.1.2.1) (vx_c (va_Nw.use rfl hE.2.2.1.2.2) vx_n))))) (by decide +kernel) hE.1.1 hE.1.2 va_S.rf (hl.1.trans hml.symm) dX0_node_7 dX0_node_10 dX0_node_11 dX0_node_13 dX0_node_16 (fun x hx => (htab x hx).elim) (Nat.le_of_ble_eq_true rfl) (Nat.le_of_ble_eq_true rfl) (Nat.le_of_ble_eq_true rfl) (Nat.le_of_ble_eq_true rfl) hlocks (fun t hA h1 h2 => ⟨(), trivial, rfl, h1, fun q hq _ => h2 q hq⟩) (fun _ h => nomatch h) (Nat.le_of_ble_eq_true rfl) (Nat.le_of_ble_eq_true rfl)
set_option maxHeartbeats 4000000 in
set_option maxRecDepth 100000 in
/-- node throws -/
theorem tX0_node_f (l : Launch) (hl9 : l.stackTraces = false) (dC : Nat → ClassId) (dI : Nat → Nat → Nat) (cI cZ cA : ClassId) (a : Nat → Nat) (sz : Nat) (sa : Nat → Nat) (n : Nat) (am : Nat) (rf : Nat) (mk : Nat) (wv : Nat → Int32) (lo : Nat → Int32) (cf : Nat → Nat) (tf : Nat → Nat) (T : Nat → Nat → Int32) (mt : Nat → Nat) (im : Nat → Int32) (v b : Int32) (hv : iw v = 1) (hn : n = 400) : vx_Met l yX0_node wsX0_node ({ frames := 6, cells := 1, slots := 6, locals := 82 }) (va_Pc [.ref (a 0), .int v, .int b] (TP dC dI (GT cI cZ cA) (XW cI cZ cA a n am rf mk wv lo cf tf T mt im) sz sa)) (TQi sz) (TXc "java/lang/IllegalStateException" sz) 1 6 (fun q => sz ≤ q) := by
  refine vx_ofW (cc := cX0_node) (maxL := 4) (ret := (some .int)) (by decide) rfl ?_
  intro p e s m args below meth c s₁ B hml htab hv
  obtain ⟨rfl, hsz, ⟨hP, hK⟩, hE⟩ := hv
  have hx := B.exec
  have hb := B.bytes
  have hr := B.returns
  have hts := atoms_spec (ws := wsX0_node) B.pre
  have hown : s.vm.findClass RX0 = some m.cls := findClass_of_methodNamed B.named
  have hlocks := B.notSynchronized
  subst hsz
  have hf_23 := hts (.fieldLink RX0 23 "GraphSearch" "nodeCount" "I") (by decide +kernel)
  have hf_9 := hts (.fieldLink RX0 9 "GraphSearch" "worths" "[I") (by decide +kernel)
  have hf_13 := hts (.fieldLink RX0 13 "GraphSearch" "losts" "[Z") (by decide +kernel)
  have hiw : ∀ w ∈ wsX00, w ∈ wsX0_node := by decide +kernel
  have hl := lv_entry ([.ref (a 0), .int v, .int b]) (n := 4) (Nat.le_of_ble_eq_true rfl)
  rw [lg_entry_eq]
  generalize (lg_sl ([.ref (a 0), .int v, .int b]) ++ List.replicate (4 - (lg_sl ([.ref (a 0), .int v, .int b])).length) Slot.unset).toArray = ls at hl ⊢
  have hl : lv_has ls 4 [(0, .ref (a 0)), (1, .int v), (2, .int b)] := hl
  refine lv_iload_n hx hb dX0_node_0 rfl (lv_at hl 1 rfl) ?_
  refine W.callR (r := iw v) (W.runS (As := [.int v]) (rest := []) ⟨hx, hb, hml, hown, hts⟩ (kX0_isWorth l v) (va_cwS 1 hts gX0_node_X0_isWorth rfl rfl rfl (by decide +kernel) ⟨Nat.le_of_ble_eq_true rfl, Nat.le_of_ble_eq_true rfl⟩) ⟨blindT, fun _ _ _ => ⟨rfl, trivial⟩⟩ rfl rfl hl.1 rfl (lv_room (Nat.le_of_ble_eq_true rfl)) dX0_node_1 ⟨Nat.zero_le _, Nat.zero_le _⟩) ?_
  refine W.eq (g2 := F0 m 4 ls [.int (iw v)]) rfl ?_
  refine lv_if_ne (tgt := 17) hx hb dX0_node_4 (by decide) (fun h4 => ?_) (fun h4 => absurd h4 (by rw [hv]; decide))
  refine lv_aload_n hx hb dX0_node_17 rfl (lv_at hl 0 rfl) ?_
  refine va_get (D := (dC, dI)) (ci := 0) (v := .int (nI n)) (C := RX0) (T := TX0) (N := 11) hx hb hts hiw hown hK hP 0 rfl rfl 4 (by decide) hf_23 (fun _ h9 => h9) rfl dX0_node_18 ?_
  refine lv_sipush (v := 400) hx hb dX0_node_21 (by decide) ?_
  refine lv_icmp_lt (tgt := 37) hx hb dX0_node_24 (by decide) (fun h24 => absurd h24 (by rw [hn]; decide)) (fun h24 => ?_)
  exact vx_throwS hx hb hl9 (own := RX0) (cls := "java/lang/IllegalStateException") (text := "there are 400 nodes") (names := ["java/lang/RuntimeException", "java/lang/Exception"]) (ik := 58) (is := 60) (ic := 62) (sa := sa 1) (A := fun _ => False) hown (by decide) (by decide) (hts (.classLink RX0 58 "java/lang/IllegalStateException") (by decide +kernel)) (hts (.initialized "java/lang/IllegalStateException") (by decide +kernel)) (hE.2.2.2.2.1) (vx_hat (L := vx_atS RX0 62 "java/lang/IllegalStateException" ["java/lang/RuntimeException", "java/lang/Exception"]) (B := [.castable "java/lang/IllegalStateException" "java/lang/IllegalStateException", .declares ⟨"java/lang/RuntimeException", "<init>", "(Ljava/lang/String;)V"⟩, .declares ⟨"java/lang/Exception", "<init>", "(Ljava/lang/String;)V"⟩, .declares ⟨"java/lang/Throwable", "<init>", "(Ljava/lang/String;)V"⟩]) (fun w hw => hts w ((by decide +kernel : ∀ w ∈ (vx_atS RX0 62 "java/lang/IllegalStateException" ["java/lang/RuntimeException", "java/lang/Exception"]).filter goodWord, w ∈ wsX0_node) w hw)) (by decide +kernel) (vx_c (va_Nw.use rfl hE.2.1.2.1) (vx_c (va_Nw.use rfl hE.2.2.1.1) (vx_c (va_Nw.use rfl hE.2.2.1.2.1) (vx_c (va_Nw.use rfl hE.2.2.1.2.2) vx_n))))) (by decide +kernel) hE.1.1 hE.1.2 va_S.rf (hl.1.trans hml.symm) dX0_node_27 dX0_node_30 dX0_node_31 dX0_node_33 dX0_node_36 (fun x hx => (htab x hx).elim) (Nat.le_of_ble_eq_true rfl) (Nat.le_of_ble_eq_true rfl) (Nat.le_of_ble_eq_true rfl) (Nat.le_of_ble_eq_true rfl) hlocks (fun t hA h1 h2 => ⟨(), trivial, rfl, h1, fun q hq _ => h2 q hq⟩) (fun _ h => nomatch h) (Nat.le_of_ble_eq_true rfl) (Nat.le_of_ble_eq_true rfl)
set_option maxHeartbeats 4000000 in
set_option maxRecDepth 100000 in
/-- move throws -/
theorem tX0_move_n (l : Launch) (hl9 : l.stackTraces = false) (dC : Nat → ClassId) (dI : Nat → Nat → Nat) (cI cZ cA : ClassId) (a : Nat → Nat) (sz : Nat) (sa : Nat → Nat) (n : Nat) (am : Nat) (rf : Nat) (mk : Nat) (wv : Nat → Int32) (lo : Nat → Int32) (cf : Nat → Nat) (tf : Nat → Nat) (T : Nat → Nat → Int32) (mt : Nat → Nat) (im : Nat → Int32) (x y : Int32) (hno : isn x n = 0 ∨ isn y n = 0) : vx_Met l yX0_move wsX0_move ({ frames := 6, cells := 1, slots := 6, locals := 82 }) (va_Pc [.ref (a 0), .int x, .int y] (TP dC dI (GT cI cZ cA) (XW cI cZ cA a n am rf mk wv lo cf tf T mt im) sz sa)) (TQi sz) (TXc "java/lang/IllegalArgumentException" sz) 1 6 (fun q => sz ≤ q) := by
  refine vx_ofW (cc := cX0_move) (maxL := 4) (ret := (some .int)) (by decide) rfl ?_
  intro p e s m args below meth c s₁ B hml htab hv
  obtain ⟨rfl, hsz, ⟨hP, hK⟩, hE⟩ := hv
  have hx := B.exec
  have hb := B.bytes
  have hr := B.returns
  have hts := atoms_spec (ws := wsX0_move) B.pre
  have hown : s.vm.findClass RX0 = some m.cls := findClass_of_methodNamed B.named
  have hlocks := B.notSynchronized
  subst hsz
  have hf_17 := hts (.fieldLink RX0 17 "GraphSearch" "moveCounts" "[I") (by decide +kernel)
  have hf_20 := hts (.fieldLink RX0 20 "GraphSearch" "targets" "[I") (by decide +kernel)
  have hf_27 := hts (.fieldLink RX0 27 "GraphSearch" "allMoves" "I") (by decide +kernel)
  have hiw : ∀ w ∈ wsX00, w ∈ wsX0_move := by decide +kernel
  have hl := lv_entry ([.ref (a 0), .int x, .int y]) (n := 4) (Nat.le_of_ble_eq_true rfl)
  rw [lg_entry_eq]
  generalize (lg_sl ([.ref (a 0), .int x, .int y]) ++ List.replicate (4 - (lg_sl ([.ref (a 0), .int x, .int y])).length) Slot.unset).toArray = ls at hl ⊢
  have hl : lv_has ls 4 [(0, .ref (a 0)), (1, .int x), (2, .int y)] := hl
  refine lv_aload_n hx hb dX0_move_0 rfl (lv_at hl 0 rfl) ?_
  refine lv_iload_n hx hb dX0_move_1 rfl (lv_at hl 1 rfl) ?_
  refine W.callR (r := isn x n) (W.runV (As := [.int x]) (rest := []) ⟨hx, hb, hml, hown, hts⟩ (kX0_isNode l dC dI cI cZ cA a n am rf mk wv lo cf tf T mt im x) (cwV 1 hts gX0_move_X0_isNode rfl rfl rfl (by decide +kernel) ⟨Nat.le_of_ble_eq_true rfl, Nat.le_of_ble_eq_true rfl⟩) ⟨blindR, va_recv hK hP (ci := 0) (q0 := 0) rfl rfl, preR hP hK⟩ rfl rfl hl.1 rfl (lv_room (Nat.le_of_ble_eq_true rfl)) dX0_move_2 ⟨Nat.zero_le _, Nat.zero_le _⟩) ?_
  refine W.eq (g2 := F0 m 5 ls [.int (isn x n)]) rfl ?_
  refine lv_if_eq (tgt := 16) hx hb dX0_move_5 (by decide) (fun h5 => ?_) (fun h5 => ?_)
  · exact vx_throwS hx hb hl9 (own := RX0) (cls := "java/lang/IllegalArgumentException") (text := "there are no such nodes") (names := ["java/lang/RuntimeException", "java/lang/Exception"]) (ik := 51) (is := 69) (ic := 55) (sa := sa 2) (A := fun _ => False) hown (by decide) (by decide) (hts (.classLink RX0 51 "java/lang/IllegalArgumentException") (by decide +kernel)) (hts (.initialized "java/lang/IllegalArgumentException") (by decide +kernel)) (hE.2.2.2.2.2.1) (vx_hat (L := vx_atS RX0 55 "java/lang/IllegalArgumentException" ["java/lang/RuntimeException", "java/lang/Exception"]) (B := [.castable "java/lang/IllegalArgumentException" "java/lang/IllegalArgumentException", .declares ⟨"java/lang/RuntimeException", "<init>", "(Ljava/lang/String;)V"⟩, .declares ⟨"java/lang/Exception", "<init>", "(Ljava/lang/String;)V"⟩, .declares ⟨"java/lang/Throwable", "<init>", "(Ljava/lang/String;)V"⟩]) (fun w hw => hts w ((by decide +kernel : ∀ w ∈ (vx_atS RX0 55 "java/lang/IllegalArgumentException" ["java/lang/RuntimeException", "java/lang/Exception"]).filter goodWord, w ∈ wsX0_move) w hw)) (by decide +kernel) (vx_c (va_Nw.use rfl hE.2.1.1) (vx_c (va_Nw.use rfl hE.2.2.1.1) (vx_c (va_Nw.use rfl hE.2.2.1.2.1) (vx_c (va_Nw.use rfl hE.2.2.1.2.2) vx_n))))) (by decide +kernel) hE.1.1 hE.1.2 va_S.rf (hl.1.trans hml.symm) dX0_move_16 dX0_move_19 dX0_move_20 dX0_move_22 dX0_move_25 (fun x hx => (htab x hx).elim) (Nat.le_of_ble_eq_true rfl) (Nat.le_of_ble_eq_true rfl) (Nat.le_of_ble_eq_true rfl) (Nat.le_of_ble_eq_true rfl) hlocks (fun t hA h1 h2 => ⟨(), trivial, rfl, h1, fun q hq _ => h2 q hq⟩) (fun _ h => nomatch h) (Nat.le_of_ble_eq_true rfl) (Nat.le_of_ble_eq_true rfl)
  · refine lv_aload_n hx hb dX0_move_8 rfl (lv_at hl 0 rfl) ?_
    refine lv_iload_n hx hb dX0_move_9 rfl (lv_at hl 2 rfl) ?_
    refine W.callR (r := isn y n) (W.runV (As := [.int y]) (rest := []) ⟨hx, hb, hml, hown, hts⟩ (kX0_isNode l dC dI cI cZ cA a n am rf mk wv lo cf tf T mt im y) (cwV 1 hts gX0_move_X0_isNode rfl rfl rfl (by decide +kernel) ⟨Nat.le_of_ble_eq_true rfl, Nat.le_of_ble_eq_true rfl⟩) ⟨blindR, va_recv hK hP (ci := 0) (q0 := 0) rfl rfl, preR hP hK⟩ rfl rfl hl.1 rfl (lv_room (Nat.le_of_ble_eq_true rfl)) dX0_move_10 ⟨Nat.zero_le _, Nat.zero_le _⟩) ?_
    refine W.eq (g2 := F0 m 13 ls [.int (isn y n)]) rfl ?_
    refine lv_if_ne (tgt := 26) hx hb dX0_move_13 (by decide) (fun h13 => absurd (hno.resolve_left h5) h13) (fun h13 => ?_)
    exact vx_throwS hx hb hl9 (own := RX0) (cls := "java/lang/IllegalArgumentException") (text := "there are no such nodes") (names := ["java/lang/RuntimeException", "java/lang/Exception"]) (ik := 51) (is := 69) (ic := 55) (sa := sa 2) (A := fun _ => False) hown (by decide) (by decide) (hts (.classLink RX0 51 "java/lang/IllegalArgumentException") (by decide +kernel)) (hts (.initialized "java/lang/IllegalArgumentException") (by decide +kernel)) (hE.2.2.2.2.2.1) (vx_hat (L := vx_atS RX0 55 "java/lang/IllegalArgumentException" ["java/lang/RuntimeException", "java/lang/Exception"]) (B := [.castable "java/lang/IllegalArgumentException" "java/lang/IllegalArgumentException", .declares ⟨"java/lang/RuntimeException", "<init>", "(Ljava/lang/String;)V"⟩, .declares ⟨"java/lang/Exception", "<init>", "(Ljava/lang/String;)V"⟩, .declares ⟨"java/lang/Throwable", "<init>", "(Ljava/lang/String;)V"⟩]) (fun w hw => hts w ((by decide +kernel : ∀ w ∈ (vx_atS RX0 55 "java/lang/IllegalArgumentException" ["java/lang/RuntimeException", "java/lang/Exception"]).filter goodWord, w ∈ wsX0_move) w hw)) (by decide +kernel) (vx_c (va_Nw.use rfl hE.2.1.1) (vx_c (va_Nw.use rfl hE.2.2.1.1) (vx_c (va_Nw.use rfl hE.2.2.1.2.1) (vx_c (va_Nw.use rfl hE.2.2.1.2.2) vx_n))))) (by decide +kernel) hE.1.1 hE.1.2 va_S.rf (hl.1.trans hml.symm) dX0_move_16 dX0_move_19 dX0_move_20 dX0_move_22 dX0_move_25 (fun x hx => (htab x hx).elim) (Nat.le_of_ble_eq_true rfl) (Nat.le_of_ble_eq_true rfl) (Nat.le_of_ble_eq_true rfl) (Nat.le_of_ble_eq_true rfl) hlocks (fun t hA h1 h2 => ⟨(), trivial, rfl, h1, fun q hq _ => h2 q hq⟩) (fun _ h => nomatch h) (Nat.le_of_ble_eq_true rfl) (Nat.le_of_ble_eq_true rfl)
set_option maxHeartbeats 4000000 in
set_option maxRecDepth 100000 in
/-- move throws -/
theorem tX0_move_f (l : Launch) (hl9 : l.stackTraces = false) (dC : Nat → ClassId) (dI : Nat → Nat → Nat) (cI cZ cA : ClassId) (a : Nat → Nat) (sz : Nat) (sa : Nat → Nat) (n : Nat) (am : Nat) (rf : Nat) (mk : Nat) (wv : Nat → Int32) (lo : Nat → Int32) (cf : Nat → Nat) (tf : Nat → Nat) (T : Nat → Nat → Int32) (mt : Nat → Nat) (im : Nat → Int32) (i j : Nat) (hn4 : n ≤ 400) (hi : i < n) (hj : j < n) (hc : cf i = 6) : vx_Met l yX0_move wsX0_move ({ frames := 6, cells := 1, slots := 6, locals := 82 }) (va_Pc [.ref (a 0), .int (nI i), .int (nI j)] (TP dC dI (GT cI cZ cA) (XW cI cZ cA a n am rf mk wv lo cf tf T mt im) sz sa)) (TQi sz) (TXc "java/lang/IllegalStateException" sz) 1 6 (fun q => sz ≤ q) := by
  refine vx_ofW (cc := cX0_move) (maxL := 4) (ret := (some .int)) (by decide) rfl ?_
  intro p e s m args below meth c s₁ B hml htab hv
  obtain ⟨rfl, hsz, ⟨hP, hK⟩, hE⟩ := hv
  have hx := B.exec
  have hb := B.bytes
  have hr := B.returns
  have hts := atoms_spec (ws := wsX0_move) B.pre
  have hown : s.vm.findClass RX0 = some m.cls := findClass_of_methodNamed B.named
  have hlocks := B.notSynchronized
  subst hsz
  have hf_17 := hts (.fieldLink RX0 17 "GraphSearch" "moveCounts" "[I") (by decide +kernel)
  have hf_20 := hts (.fieldLink RX0 20 "GraphSearch" "targets" "[I") (by decide +kernel)
  have hf_27 := hts (.fieldLink RX0 27 "GraphSearch" "allMoves" "I") (by decide +kernel)
  have hiw : ∀ w ∈ wsX00, w ∈ wsX0_move := by decide +kernel
  have hl := lv_entry ([.ref (a 0), .int (nI i), .int (nI j)]) (n := 4) (Nat.le_of_ble_eq_true rfl)
  rw [lg_entry_eq]
  generalize (lg_sl ([.ref (a 0), .int (nI i), .int (nI j)]) ++ List.replicate (4 - (lg_sl ([.ref (a 0), .int (nI i), .int (nI j)])).length) Slot.unset).toArray = ls at hl ⊢
  have hl : lv_has ls 4 [(0, .ref (a 0)), (1, .int (nI i)), (2, .int (nI j))] := hl
  refine lv_aload_n hx hb dX0_move_0 rfl (lv_at hl 0 rfl) ?_
  refine lv_iload_n hx hb dX0_move_1 rfl (lv_at hl 1 rfl) ?_
  refine W.callR (r := isn (nI i) n) (W.runV (As := [.int (nI i)]) (rest := []) ⟨hx, hb, hml, hown, hts⟩ (kX0_isNode l dC dI cI cZ cA a n am rf mk wv lo cf tf T mt im (nI i)) (cwV 1 hts gX0_move_X0_isNode rfl rfl rfl (by decide +kernel) ⟨Nat.le_of_ble_eq_true rfl, Nat.le_of_ble_eq_true rfl⟩) ⟨blindR, va_recv hK hP (ci := 0) (q0 := 0) rfl rfl, preR hP hK⟩ rfl rfl hl.1 rfl (lv_room (Nat.le_of_ble_eq_true rfl)) dX0_move_2 ⟨Nat.zero_le _, Nat.zero_le _⟩) ?_
  refine W.eq (g2 := F0 m 5 ls [.int (isn (nI i) n)]) rfl ?_
  refine lv_if_eq (tgt := 16) hx hb dX0_move_5 (by decide) (fun h5 => absurd h5 (by rw [isn_1 hi (by omega)]; decide)) (fun h5 => ?_)
  refine lv_aload_n hx hb dX0_move_8 rfl (lv_at hl 0 rfl) ?_
  refine lv_iload_n hx hb dX0_move_9 rfl (lv_at hl 2 rfl) ?_
  refine W.callR (r := isn (nI j) n) (W.runV (As := [.int (nI j)]) (rest := []) ⟨hx, hb, hml, hown, hts⟩ (kX0_isNode l dC dI cI cZ cA a n am rf mk wv lo cf tf T mt im (nI j)) (cwV 1 hts gX0_move_X0_isNode rfl rfl rfl (by decide +kernel) ⟨Nat.le_of_ble_eq_true rfl, Nat.le_of_ble_eq_true rfl⟩) ⟨blindR, va_recv hK hP (ci := 0) (q0 := 0) rfl rfl, preR hP hK⟩ rfl rfl hl.1 rfl (lv_room (Nat.le_of_ble_eq_true rfl)) dX0_move_10 ⟨Nat.zero_le _, Nat.zero_le _⟩) ?_
  refine W.eq (g2 := F0 m 13 ls [.int (isn (nI j) n)]) rfl ?_
  refine lv_if_ne (tgt := 26) hx hb dX0_move_13 (by decide) (fun h13 => ?_) (fun h13 => absurd h13 (by rw [isn_1 hj (by omega)]; decide))
  refine lv_aload_n hx hb dX0_move_26 rfl (lv_at hl 0 rfl) ?_
  refine va_get (D := (dC, dI)) (ci := 0) (v := .ref (a 3)) (C := RX0) (T := TX0) (N := 11) hx hb hts hiw hown hK hP 0 rfl rfl 2 (by decide) hf_17 (fun _ h9 => h9) rfl dX0_move_27 ?_
  refine lv_iload_n hx hb dX0_move_30 rfl (lv_at hl 1 rfl) ?_
  refine ga_iald hx hb hK hP 3 0 rfl rfl i (v := nI (cf i)) rfl (by omega) (by decide) dX0_move_31 ?_
  refine lv_bipush (v := 6) hx hb dX0_move_32 (by decide) ?_
  refine lv_icmp_lt (tgt := 47) hx hb dX0_move_34 (by decide) (fun h34 => absurd h34 (by rw [hc]; decide)) (fun h34 => ?_)
  exact vx_throwS hx hb hl9 (own := RX0) (cls := "java/lang/IllegalStateException") (text := "the node has 6 moves") (names := ["java/lang/RuntimeException", "java/lang/Exception"]) (ik := 58) (is := 71) (ic := 62) (sa := sa 3) (A := fun _ => False) hown (by decide) (by decide) (hts (.classLink RX0 58 "java/lang/IllegalStateException") (by decide +kernel)) (hts (.initialized "java/lang/IllegalStateException") (by decide +kernel)) (hE.2.2.2.2.2.2.1) (vx_hat (L := vx_atS RX0 62 "java/lang/IllegalStateException" ["java/lang/RuntimeException", "java/lang/Exception"]) (B := [.castable "java/lang/IllegalStateException" "java/lang/IllegalStateException", .declares ⟨"java/lang/RuntimeException", "<init>", "(Ljava/lang/String;)V"⟩, .declares ⟨"java/lang/Exception", "<init>", "(Ljava/lang/String;)V"⟩, .declares ⟨"java/lang/Throwable", "<init>", "(Ljava/lang/String;)V"⟩]) (fun w hw => hts w ((by decide +kernel : ∀ w ∈ (vx_atS RX0 62 "java/lang/IllegalStateException" ["java/lang/RuntimeException", "java/lang/Exception"]).filter goodWord, w ∈ wsX0_move) w hw)) (by decide +kernel) (vx_c (va_Nw.use rfl hE.2.1.2.1) (vx_c (va_Nw.use rfl hE.2.2.1.1) (vx_c (va_Nw.use rfl hE.2.2.1.2.1) (vx_c (va_Nw.use rfl hE.2.2.1.2.2) vx_n))))) (by decide +kernel) hE.1.1 hE.1.2 va_S.rf (hl.1.trans hml.symm) dX0_move_37 dX0_move_40 dX0_move_41 dX0_move_43 dX0_move_46 (fun x hx => (htab x hx).elim) (Nat.le_of_ble_eq_true rfl) (Nat.le_of_ble_eq_true rfl) (Nat.le_of_ble_eq_true rfl) (Nat.le_of_ble_eq_true rfl) hlocks (fun t hA h1 h2 => ⟨(), trivial, rfl, h1, fun q hq _ => h2 q hq⟩) (fun _ h => nomatch h) (Nat.le_of_ble_eq_true rfl) (Nat.le_of_ble_eq_true rfl)
set_option maxHeartbeats 4000000 in
set_option maxRecDepth 100000 in
/-- value throws -/
theorem tX0_value (l : Launch) (hl9 : l.stackTraces = false) (dC : Nat → ClassId) (dI : Nat → Nat → Nat) (cI cZ cA : ClassId) (a : Nat → Nat) (sz : Nat) (sa : Nat → Nat) (n : Nat) (am : Nat) (rf : Nat) (mk : Nat) (wv : Nat → Int32) (lo : Nat → Int32) (cf : Nat → Nat) (tf : Nat → Nat) (T : Nat → Nat → Int32) (mt : Nat → Nat) (im : Nat → Int32) (x d : Int32)  (hB : Bad n x d) : vx_Met l yX0_value wsX0_value ({ frames := 7, cells := 1, slots := 6, locals := 112 }) (va_Pc [.ref (a 0), .int x, .int d] (TP dC dI (GT cI cZ cA) (XW cI cZ cA a n am rf mk wv lo cf tf T mt im) sz sa)) (TQi sz) (TXc "java/lang/IllegalArgumentException" sz) 1 6 (fun q => sz ≤ q) := by
  refine vx_ofW (cc := cX0_value) (maxL := 3) (ret := (some .int)) (by decide) rfl ?_
  intro p e s m args below meth c s₁ B hml htab hv
  obtain ⟨rfl, hsz, ⟨hP, hK⟩, hE⟩ := hv
  have hx := B.exec
  have hb := B.bytes
  have hr := B.returns
  have hts := atoms_spec (ws := wsX0_value) B.pre
  have hown : s.vm.findClass RX0 = some m.cls := findClass_of_methodNamed B.named
  have hlocks := B.notSynchronized
  subst hsz
  have hf_32 := hts (.fieldLink RX0 32 "GraphSearch" "table" "[[I") (by decide +kernel)
  have hiw : ∀ w ∈ wsX00, w ∈ wsX0_value := by decide +kernel
  have hl := lv_entry ([.ref (a 0), .int x, .int d]) (n := 3) (Nat.le_of_ble_eq_true rfl)
  rw [lg_entry_eq]
  generalize (lg_sl ([.ref (a 0), .int x, .int d]) ++ List.replicate (3 - (lg_sl ([.ref (a 0), .int x, .int d])).length) Slot.unset).toArray = ls at hl ⊢
  have hl : lv_has ls 3 [(0, .ref (a 0)), (1, .int x), (2, .int d)] := hl
  refine lv_aload_n hx hb dX0_value_0 rfl (lv_at hl 0 rfl) ?_
  refine lv_iload_n hx hb dX0_value_1 rfl (lv_at hl 1 rfl) ?_
  refine lv_iload_n hx hb dX0_value_2 rfl (lv_at hl 2 rfl) ?_
  refine vx_callv (A0 := fun q => s.heap.size ≤ q) (H0 := s.heap) (vx_runV (As := [.int x, .int d]) (rest := []) ⟨hx, hb, hml, hown, hts⟩ (tX0_refuse l hl9 dC dI cI cZ cA a s.heap.size sa n am rf mk wv lo cf tf T mt im x d hB) (cwV 2 hts gX0_value_X0_refuseWrongQuestion rfl rfl rfl (by decide +kernel) ⟨Nat.le_of_ble_eq_true rfl, Nat.le_of_ble_eq_true rfl⟩) ⟨blindTP, va_recv hK hP (ci := 0) (q0 := 0) rfl rfl, preTP hP hK hE⟩ rfl rfl hl.1 rfl (lv_room (Nat.le_of_ble_eq_true rfl)) dX0_value_3 ⟨Nat.le_of_ble_eq_true rfl, Nat.le_of_ble_eq_true rfl⟩) va_S.rf (fun q _ h => h) (fun q h => h) (fun q _ h => h) (fun E ce q9 u t H1 locs ht hvm hpx hBX hz hk hS hce hcv hcl => ?_) (fun u t H1 locs ht hvm hw hB hz hk hS => hw.elim)
  have hEe : E = "java/lang/IllegalArgumentException" := hBX
  subst hEe
  exact vx_out (fun x hx => (htab x hx).elim) hlocks hce hcv hcl (fun t2 ht2 _ => ⟨(), trivial, rfl, hS.F ht2⟩) hS.2.2 (Nat.le_of_ble_eq_true rfl) (Nat.le_of_ble_eq_true rfl)
set_option maxHeartbeats 4000000 in
set_option maxRecDepth 100000 in
/-- best throws -/
theorem tX0_best (l : Launch) (hl9 : l.stackTraces = false) (dC : Nat → ClassId) (dI : Nat → Nat → Nat) (cI cZ cA : ClassId) (a : Nat → Nat) (sz : Nat) (sa : Nat → Nat) (n : Nat) (am : Nat) (rf : Nat) (mk : Nat) (wv : Nat → Int32) (lo : Nat → Int32) (cf : Nat → Nat) (tf : Nat → Nat) (T : Nat → Nat → Int32) (mt : Nat → Nat) (im : Nat → Int32) (x d : Int32)  (hB : Bad n x d) : vx_Met l yX0_best wsX0_best ({ frames := 7, cells := 1, slots := 6, locals := 112 }) (va_Pc [.ref (a 0), .int x, .int d] (TP dC dI (GT cI cZ cA) (XW cI cZ cA a n am rf mk wv lo cf tf T mt im) sz sa)) (TQi sz) (TXc "java/lang/IllegalArgumentException" sz) 1 6 (fun q => sz ≤ q) := by
  refine vx_ofW (cc := cX0_best) (maxL := 3) (ret := (some .int)) (by decide) rfl ?_
  intro p e s m args below meth c s₁ B hml htab hv
  obtain ⟨rfl, hsz, ⟨hP, hK⟩, hE⟩ := hv
  have hx := B.exec
  have hb := B.bytes
  have hr := B.returns
  have hts := atoms_spec (ws := wsX0_best) B.pre
  have hown : s.vm.findClass RX0 = some m.cls := findClass_of_methodNamed B.named
  have hlocks := B.notSynchronized
  subst hsz
  have hl := lv_entry ([.ref (a 0), .int x, .int d]) (n := 3) (Nat.le_of_ble_eq_true rfl)
  rw [lg_entry_eq]
  generalize (lg_sl ([.ref (a 0), .int x, .int d]) ++ List.replicate (3 - (lg_sl ([.ref (a 0), .int x, .int d])).length) Slot.unset).toArray = ls at hl ⊢
  have hl : lv_has ls 3 [(0, .ref (a 0)), (1, .int x), (2, .int d)] := hl
  refine lv_aload_n hx hb dX0_best_0 rfl (lv_at hl 0 rfl) ?_
  refine lv_iload_n hx hb dX0_best_1 rfl (lv_at hl 1 rfl) ?_
  refine lv_iload_n hx hb dX0_best_2 rfl (lv_at hl 2 rfl) ?_
  refine vx_callv (A0 := fun q => s.heap.size ≤ q) (H0 := s.heap) (vx_runV (As := [.int x, .int d]) (rest := []) ⟨hx, hb, hml, hown, hts⟩ (tX0_refuse l hl9 dC dI cI cZ cA a s.heap.size sa n am rf mk wv lo cf tf T mt im x d hB) (cwV 2 hts gX0_best_X0_refuseWrongQuestion rfl rfl rfl (by decide +kernel) ⟨Nat.le_of_ble_eq_true rfl, Nat.le_of_ble_eq_true rfl⟩) ⟨blindTP, va_recv hK hP (ci := 0) (q0 := 0) rfl rfl, preTP hP hK hE⟩ rfl rfl hl.1 rfl (lv_room (Nat.le_of_ble_eq_true rfl)) dX0_best_3 ⟨Nat.le_of_ble_eq_true rfl, Nat.le_of_ble_eq_true rfl⟩) va_S.rf (fun q _ h => h) (fun q h => h) (fun q _ h => h) (fun E ce q9 u t H1 locs ht hvm hpx hBX hz hk hS hce hcv hcl => ?_) (fun u t H1 locs ht hvm hw hB hz hk hS => hw.elim)
  have hEe : E = "java/lang/IllegalArgumentException" := hBX
  subst hEe
  exact vx_out (fun x hx => (htab x hx).elim) hlocks hce hcv hcl (fun t2 ht2 _ => ⟨(), trivial, rfl, hS.F ht2⟩) hS.2.2 (Nat.le_of_ble_eq_true rfl) (Nat.le_of_ble_eq_true rfl)
set_option maxHeartbeats 4000000 in
set_option maxRecDepth 100000 in
/-- ties throws -/
theorem tX0_ties (l : Launch) (hl9 : l.stackTraces = false) (dC : Nat → ClassId) (dI : Nat → Nat → Nat) (cI cZ cA : ClassId) (a : Nat → Nat) (sz : Nat) (sa : Nat → Nat) (n : Nat) (am : Nat) (rf : Nat) (mk : Nat) (wv : Nat → Int32) (lo : Nat → Int32) (cf : Nat → Nat) (tf : Nat → Nat) (T : Nat → Nat → Int32) (mt : Nat → Nat) (im : Nat → Int32) (x d : Int32)  (hB : Bad n x d) : vx_Met l yX0_ties wsX0_ties ({ frames := 7, cells := 1, slots := 6, locals := 112 }) (va_Pc [.ref (a 0), .int x, .int d] (TP dC dI (GT cI cZ cA) (XW cI cZ cA a n am rf mk wv lo cf tf T mt im) sz sa)) (TQi sz) (TXc "java/lang/IllegalArgumentException" sz) 1 6 (fun q => sz ≤ q) := by
  refine vx_ofW (cc := cX0_ties) (maxL := 5) (ret := (some .int)) (by decide) rfl ?_
  intro p e s m args below meth c s₁ B hml htab hv
  obtain ⟨rfl, hsz, ⟨hP, hK⟩, hE⟩ := hv
  have hx := B.exec
  have hb := B.bytes
  have hr := B.returns
  have hts := atoms_spec (ws := wsX0_ties) B.pre
  have hown : s.vm.findClass RX0 = some m.cls := findClass_of_methodNamed B.named
  have hlocks := B.notSynchronized
  subst hsz
  have hf_17 := hts (.fieldLink RX0 17 "GraphSearch" "moveCounts" "[I") (by decide +kernel)
  have hf_32 := hts (.fieldLink RX0 32 "GraphSearch" "table" "[[I") (by decide +kernel)
  have hiw : ∀ w ∈ wsX00, w ∈ wsX0_ties := by decide +kernel
  have hl := lv_entry ([.ref (a 0), .int x, .int d]) (n := 5) (Nat.le_of_ble_eq_true rfl)
  rw [lg_entry_eq]
  generalize (lg_sl ([.ref (a 0), .int x, .int d]) ++ List.replicate (5 - (lg_sl ([.ref (a 0), .int x, .int d])).length) Slot.unset).toArray = ls at hl ⊢
  have hl : lv_has ls 5 [(0, .ref (a 0)), (1, .int x), (2, .int d)] := hl
  refine lv_aload_n hx hb dX0_ties_0 rfl (lv_at hl 0 rfl) ?_
  refine lv_iload_n hx hb dX0_ties_1 rfl (lv_at hl 1 rfl) ?_
  refine lv_iload_n hx hb dX0_ties_2 rfl (lv_at hl 2 rfl) ?_
  refine vx_callv (A0 := fun q => s.heap.size ≤ q) (H0 := s.heap) (vx_runV (As := [.int x, .int d]) (rest := []) ⟨hx, hb, hml, hown, hts⟩ (tX0_refuse l hl9 dC dI cI cZ cA a s.heap.size sa n am rf mk wv lo cf tf T mt im x d hB) (cwV 2 hts gX0_ties_X0_refuseWrongQuestion rfl rfl rfl (by decide +kernel) ⟨Nat.le_of_ble_eq_true rfl, Nat.le_of_ble_eq_true rfl⟩) ⟨blindTP, va_recv hK hP (ci := 0) (q0 := 0) rfl rfl, preTP hP hK hE⟩ rfl rfl hl.1 rfl (lv_room (Nat.le_of_ble_eq_true rfl)) dX0_ties_3 ⟨Nat.le_of_ble_eq_true rfl, Nat.le_of_ble_eq_true rfl⟩) va_S.rf (fun q _ h => h) (fun q h => h) (fun q _ h => h) (fun E ce q9 u t H1 locs ht hvm hpx hBX hz hk hS hce hcv hcl => ?_) (fun u t H1 locs ht hvm hw hB hz hk hS => hw.elim)
  have hEe : E = "java/lang/IllegalArgumentException" := hBX
  subst hEe
  exact vx_out (fun x hx => (htab x hx).elim) hlocks hce hcv hcl (fun t2 ht2 _ => ⟨(), trivial, rfl, hS.F ht2⟩) hS.2.2 (Nat.le_of_ble_eq_true rfl) (Nat.le_of_ble_eq_true rfl)
set_option maxHeartbeats 4000000 in
set_option maxRecDepth 100000 in
/-- settled throws -/
theorem tX0_settled (l : Launch) (hl9 : l.stackTraces = false) (dC : Nat → ClassId) (dI : Nat → Nat → Nat) (cI cZ cA : ClassId) (a : Nat → Nat) (sz : Nat) (sa : Nat → Nat) (n : Nat) (am : Nat) (rf : Nat) (mk : Nat) (wv : Nat → Int32) (lo : Nat → Int32) (cf : Nat → Nat) (tf : Nat → Nat) (T : Nat → Nat → Int32) (mt : Nat → Nat) (im : Nat → Int32) (x d : Int32)  (hB : Bad n x d) : vx_Met l yX0_settled wsX0_settled ({ frames := 7, cells := 1, slots := 6, locals := 112 }) (va_Pc [.ref (a 0), .int x, .int d] (TP dC dI (GT cI cZ cA) (XW cI cZ cA a n am rf mk wv lo cf tf T mt im) sz sa)) (TQi sz) (TXc "java/lang/IllegalArgumentException" sz) 1 6 (fun q => sz ≤ q) := by
  refine vx_ofW (cc := cX0_settled) (maxL := 4) (ret := (some .int)) (by decide) rfl ?_
  intro p e s m args below meth c s₁ B hml htab hv
  obtain ⟨rfl, hsz, ⟨hP, hK⟩, hE⟩ := hv
  have hx := B.exec
  have hb := B.bytes
  have hr := B.returns
  have hts := atoms_spec (ws := wsX0_settled) B.pre
  have hown : s.vm.findClass RX0 = some m.cls := findClass_of_methodNamed B.named
  have hlocks := B.notSynchronized
  subst hsz
  have hf_32 := hts (.fieldLink RX0 32 "GraphSearch" "table" "[[I") (by decide +kernel)
  have hiw : ∀ w ∈ wsX00, w ∈ wsX0_settled := by decide +kernel
  have hl := lv_entry ([.ref (a 0), .int x, .int d]) (n := 4) (Nat.le_of_ble_eq_true rfl)
  rw [lg_entry_eq]
  generalize (lg_sl ([.ref (a 0), .int x, .int d]) ++ List.replicate (4 - (lg_sl ([.ref (a 0), .int x, .int d])).length) Slot.unset).toArray = ls at hl ⊢
  have hl : lv_has ls 4 [(0, .ref (a 0)), (1, .int x), (2, .int d)] := hl
  refine lv_aload_n hx hb dX0_settled_0 rfl (lv_at hl 0 rfl) ?_
  refine lv_iload_n hx hb dX0_settled_1 rfl (lv_at hl 1 rfl) ?_
  refine lv_iload_n hx hb dX0_settled_2 rfl (lv_at hl 2 rfl) ?_
  refine vx_callv (A0 := fun q => s.heap.size ≤ q) (H0 := s.heap) (vx_runV (As := [.int x, .int d]) (rest := []) ⟨hx, hb, hml, hown, hts⟩ (tX0_refuse l hl9 dC dI cI cZ cA a s.heap.size sa n am rf mk wv lo cf tf T mt im x d hB) (cwV 2 hts gX0_settled_X0_refuseWrongQuestion rfl rfl rfl (by decide +kernel) ⟨Nat.le_of_ble_eq_true rfl, Nat.le_of_ble_eq_true rfl⟩) ⟨blindTP, va_recv hK hP (ci := 0) (q0 := 0) rfl rfl, preTP hP hK hE⟩ rfl rfl hl.1 rfl (lv_room (Nat.le_of_ble_eq_true rfl)) dX0_settled_3 ⟨Nat.le_of_ble_eq_true rfl, Nat.le_of_ble_eq_true rfl⟩) va_S.rf (fun q _ h => h) (fun q h => h) (fun q _ h => h) (fun E ce q9 u t H1 locs ht hvm hpx hBX hz hk hS hce hcv hcl => ?_) (fun u t H1 locs ht hvm hw hB hz hk hS => hw.elim)
  have hEe : E = "java/lang/IllegalArgumentException" := hBX
  subst hEe
  exact vx_out (fun x hx => (htab x hx).elim) hlocks hce hcv hcl (fun t2 ht2 _ => ⟨(), trivial, rfl, hS.F ht2⟩) hS.2.2 (Nat.le_of_ble_eq_true rfl) (Nat.le_of_ble_eq_true rfl)
set_option maxHeartbeats 4000000 in
set_option maxRecDepth 100000 in
/-- around throws -/
theorem tX0_around (l : Launch) (hl9 : l.stackTraces = false) (dC : Nat → ClassId) (dI : Nat → Nat → Nat) (cI cZ cA : ClassId) (a : Nat → Nat) (sz : Nat) (sa : Nat → Nat) (n : Nat) (am : Nat) (rf : Nat) (mk : Nat) (wv : Nat → Int32) (lo : Nat → Int32) (cf : Nat → Nat) (tf : Nat → Nat) (T : Nat → Nat → Int32) (mt : Nat → Nat) (im : Nat → Int32) (x d : Int32)  (hB : Bad n x d) : vx_Met l yX0_around wsX0_around ({ frames := 7, cells := 1, slots := 6, locals := 104 }) (va_Pc [.ref (a 0), .int x, .int d] (TP dC dI (GT cI cZ cA) (XW cI cZ cA a n am rf mk wv lo cf tf T mt im) sz sa)) (TQi sz) (TXc "java/lang/IllegalArgumentException" sz) 1 6 (fun q => sz ≤ q) := by
  refine vx_ofW (cc := cX0_around) (maxL := 6) (ret := (some .int)) (by decide) rfl ?_
  intro p e s m args below meth c s₁ B hml htab hv
  obtain ⟨rfl, hsz, ⟨hP, hK⟩, hE⟩ := hv
  have hx := B.exec
  have hb := B.bytes
  have hr := B.returns
  have hts := atoms_spec (ws := wsX0_around) B.pre
  have hown : s.vm.findClass RX0 = some m.cls := findClass_of_methodNamed B.named
  have hlocks := B.notSynchronized
  subst hsz
  have hf_44 := hts (.fieldLink RX0 44 "GraphSearch" "metCount" "I") (by decide +kernel)
  have hf_38 := hts (.fieldLink RX0 38 "GraphSearch" "met" "[I") (by decide +kernel)
  have hiw : ∀ w ∈ wsX00, w ∈ wsX0_around := by decide +kernel
  have hl := lv_entry ([.ref (a 0), .int x, .int d]) (n := 6) (Nat.le_of_ble_eq_true rfl)
  rw [lg_entry_eq]
  generalize (lg_sl ([.ref (a 0), .int x, .int d]) ++ List.replicate (6 - (lg_sl ([.ref (a 0), .int x, .int d])).length) Slot.unset).toArray = ls at hl ⊢
  have hl : lv_has ls 6 [(0, .ref (a 0)), (1, .int x), (2, .int d)] := hl
  refine lv_aload_n hx hb dX0_around_0 rfl (lv_at hl 0 rfl) ?_
  refine lv_iload_n hx hb dX0_around_1 rfl (lv_at hl 1 rfl) ?_
  refine lv_iload_n hx hb dX0_around_2 rfl (lv_at hl 2 rfl) ?_
  refine vx_callv (A0 := fun q => s.heap.size ≤ q) (H0 := s.heap) (vx_runV (As := [.int x, .int d]) (rest := []) ⟨hx, hb, hml, hown, hts⟩ (tX0_refuse l hl9 dC dI cI cZ cA a s.heap.size sa n am rf mk wv lo cf tf T mt im x d hB) (cwV 2 hts gX0_around_X0_refuseWrongQuestion rfl rfl rfl (by decide +kernel) ⟨Nat.le_of_ble_eq_true rfl, Nat.le_of_ble_eq_true rfl⟩) ⟨blindTP, va_recv hK hP (ci := 0) (q0 := 0) rfl rfl, preTP hP hK hE⟩ rfl rfl hl.1 rfl (lv_room (Nat.le_of_ble_eq_true rfl)) dX0_around_3 ⟨Nat.le_of_ble_eq_true rfl, Nat.le_of_ble_eq_true rfl⟩) va_S.rf (fun q _ h => h) (fun q h => h) (fun q _ h => h) (fun E ce q9 u t H1 locs ht hvm hpx hBX hz hk hS hce hcv hcl => ?_) (fun u t H1 locs ht hvm hw hB hz hk hS => hw.elim)
  have hEe : E = "java/lang/IllegalArgumentException" := hBX
  subst hEe
  exact vx_out (fun x hx => (htab x hx).elim) hlocks hce hcv hcl (fun t2 ht2 _ => ⟨(), trivial, rfl, hS.F ht2⟩) hS.2.2 (Nat.le_of_ble_eq_true rfl) (Nat.le_of_ble_eq_true rfl)
set_option maxHeartbeats 4000000 in
set_option maxRecDepth 100000 in
/-- reaches throws -/
theorem tX0_reaches (l : Launch) (hl9 : l.stackTraces = false) (dC : Nat → ClassId) (dI : Nat → Nat → Nat) (cI cZ cA : ClassId) (a : Nat → Nat) (sz : Nat) (sa : Nat → Nat) (n : Nat) (am : Nat) (rf : Nat) (mk : Nat) (wv : Nat → Int32) (lo : Nat → Int32) (cf : Nat → Nat) (tf : Nat → Nat) (T : Nat → Nat → Int32) (mt : Nat → Nat) (im : Nat → Int32) (x d : Int32) (v : Int32) (hB : Bad n x d) : vx_Met l yX0_reaches wsX0_reaches ({ frames := 7, cells := 1, slots := 6, locals := 112 }) (va_Pc [.ref (a 0), .int x, .int d, .int v] (TP dC dI (GT cI cZ cA) (XW cI cZ cA a n am rf mk wv lo cf tf T mt im) sz sa)) (TQi sz) (TXc "java/lang/IllegalArgumentException" sz) 1 6 (fun q => sz ≤ q) := by
  refine vx_ofW (cc := cX0_reaches) (maxL := 4) (ret := (some .boolean)) (by decide) rfl ?_
  intro p e s m args below meth c s₁ B hml htab hv
  obtain ⟨rfl, hsz, ⟨hP, hK⟩, hE⟩ := hv
  have hx := B.exec
  have hb := B.bytes
  have hr := B.returns
  have hts := atoms_spec (ws := wsX0_reaches) B.pre
  have hown : s.vm.findClass RX0 = some m.cls := findClass_of_methodNamed B.named
  have hlocks := B.notSynchronized
  subst hsz
  have hf_32 := hts (.fieldLink RX0 32 "GraphSearch" "table" "[[I") (by decide +kernel)
  have hiw : ∀ w ∈ wsX00, w ∈ wsX0_reaches := by decide +kernel
  have hl := lv_entry ([.ref (a 0), .int x, .int d, .int v]) (n := 4) (Nat.le_of_ble_eq_true rfl)
  rw [lg_entry_eq]
  generalize (lg_sl ([.ref (a 0), .int x, .int d, .int v]) ++ List.replicate (4 - (lg_sl ([.ref (a 0), .int x, .int d, .int v])).length) Slot.unset).toArray = ls at hl ⊢
  have hl : lv_has ls 4 [(0, .ref (a 0)), (1, .int x), (2, .int d), (3, .int v)] := hl
  refine lv_aload_n hx hb dX0_reaches_0 rfl (lv_at hl 0 rfl) ?_
  refine lv_iload_n hx hb dX0_reaches_1 rfl (lv_at hl 1 rfl) ?_
  refine lv_iload_n hx hb dX0_reaches_2 rfl (lv_at hl 2 rfl) ?_
  refine vx_callv (A0 := fun q => s.heap.size ≤ q) (H0 := s.heap) (vx_runV (As := [.int x, .int d]) (rest := []) ⟨hx, hb, hml, hown, hts⟩ (tX0_refuse l hl9 dC dI cI cZ cA a s.heap.size sa n am rf mk wv lo cf tf T mt im x d hB) (cwV 2 hts gX0_reaches_X0_refuseWrongQuestion rfl rfl rfl (by decide +kernel) ⟨Nat.le_of_ble_eq_true rfl, Nat.le_of_ble_eq_true rfl⟩) ⟨blindTP, va_recv hK hP (ci := 0) (q0 := 0) rfl rfl, preTP hP hK hE⟩ rfl rfl hl.1 rfl (lv_room (Nat.le_of_ble_eq_true rfl)) dX0_reaches_3 ⟨Nat.le_of_ble_eq_true rfl, Nat.le_of_ble_eq_true rfl⟩) va_S.rf (fun q _ h => h) (fun q h => h) (fun q _ h => h) (fun E ce q9 u t H1 locs ht hvm hpx hBX hz hk hS hce hcv hcl => ?_) (fun u t H1 locs ht hvm hw hB hz hk hS => hw.elim)
  have hEe : E = "java/lang/IllegalArgumentException" := hBX
  subst hEe
  exact vx_out (fun x hx => (htab x hx).elim) hlocks hce hcv hcl (fun t2 ht2 _ => ⟨(), trivial, rfl, hS.F ht2⟩) hS.2.2 (Nat.le_of_ble_eq_true rfl) (Nat.le_of_ble_eq_true rfl)
set_option maxHeartbeats 4000000 in
set_option maxRecDepth 100000 in
/-- line throws -/
theorem tX0_line (l : Launch) (hl9 : l.stackTraces = false) (dC : Nat → ClassId) (dI : Nat → Nat → Nat) (cI cZ cA : ClassId) (a : Nat → Nat) (sz : Nat) (sa : Nat → Nat) (n : Nat) (am : Nat) (rf : Nat) (mk : Nat) (wv : Nat → Int32) (lo : Nat → Int32) (cf : Nat → Nat) (tf : Nat → Nat) (T : Nat → Nat → Int32) (mt : Nat → Nat) (im : Nat → Int32) (x d : Int32) (v : Int32) (hB : Bad n x d) : vx_Met l yX0_line wsX0_line ({ frames := 7, cells := 1, slots := 6, locals := 112 }) (va_Pc [.ref (a 0), .int x, .int d, .int v] (TP dC dI (GT cI cZ cA) (XW cI cZ cA a n am rf mk wv lo cf tf T mt im) sz sa)) (TQi sz) (TXc "java/lang/IllegalArgumentException" sz) 1 6 (fun q => sz ≤ q) := by
  refine vx_ofW (cc := cX0_line) (maxL := 7) (ret := (some .int)) (by decide) rfl ?_
  intro p e s m args below meth c s₁ B hml htab hv
  obtain ⟨rfl, hsz, ⟨hP, hK⟩, hE⟩ := hv
  have hx := B.exec
  have hb := B.bytes
  have hr := B.returns
  have hts := atoms_spec (ws := wsX0_line) B.pre
  have hown : s.vm.findClass RX0 = some m.cls := findClass_of_methodNamed B.named
  have hlocks := B.notSynchronized
  subst hsz
  have hf_20 := hts (.fieldLink RX0 20 "GraphSearch" "targets" "[I") (by decide +kernel)
  have hiw : ∀ w ∈ wsX00, w ∈ wsX0_line := by decide +kernel
  have hl := lv_entry ([.ref (a 0), .int x, .int d, .int v]) (n := 7) (Nat.le_of_ble_eq_true rfl)
  rw [lg_entry_eq]
  generalize (lg_sl ([.ref (a 0), .int x, .int d, .int v]) ++ List.replicate (7 - (lg_sl ([.ref (a 0), .int x, .int d, .int v])).length) Slot.unset).toArray = ls at hl ⊢
  have hl : lv_has ls 7 [(0, .ref (a 0)), (1, .int x), (2, .int d), (3, .int v)] := hl
  refine lv_aload_n hx hb dX0_line_0 rfl (lv_at hl 0 rfl) ?_
  refine lv_iload_n hx hb dX0_line_1 rfl (lv_at hl 1 rfl) ?_
  refine lv_iload_n hx hb dX0_line_2 rfl (lv_at hl 2 rfl) ?_
  refine vx_callv (A0 := fun q => s.heap.size ≤ q) (H0 := s.heap) (vx_runV (As := [.int x, .int d]) (rest := []) ⟨hx, hb, hml, hown, hts⟩ (tX0_refuse l hl9 dC dI cI cZ cA a s.heap.size sa n am rf mk wv lo cf tf T mt im x d hB) (cwV 2 hts gX0_line_X0_refuseWrongQuestion rfl rfl rfl (by decide +kernel) ⟨Nat.le_of_ble_eq_true rfl, Nat.le_of_ble_eq_true rfl⟩) ⟨blindTP, va_recv hK hP (ci := 0) (q0 := 0) rfl rfl, preTP hP hK hE⟩ rfl rfl hl.1 rfl (lv_room (Nat.le_of_ble_eq_true rfl)) dX0_line_3 ⟨Nat.le_of_ble_eq_true rfl, Nat.le_of_ble_eq_true rfl⟩) va_S.rf (fun q _ h => h) (fun q h => h) (fun q _ h => h) (fun E ce q9 u t H1 locs ht hvm hpx hBX hz hk hS hce hcv hcl => ?_) (fun u t H1 locs ht hvm hw hB hz hk hS => hw.elim)
  have hEe : E = "java/lang/IllegalArgumentException" := hBX
  subst hEe
  exact vx_out (fun x hx => (htab x hx).elim) hlocks hce hcv hcl (fun t2 ht2 _ => ⟨(), trivial, rfl, hS.F ht2⟩) hS.2.2 (Nat.le_of_ble_eq_true rfl) (Nat.le_of_ble_eq_true rfl)
