/-- the game is in order -/
def Gok (n : Nat) (wv lo : Nat → Int32) (cf tf : Nat → Nat) : Prop := n ≤ 400 ∧ (∀ x, x < n → rg (wv x)) ∧ (∀ x, x < n → cf x ≤ 6) ∧ (∀ x, x < n → ∀ j, j < cf x → tf (x * 6 + j) < n) ∧ (∀ x, lo x = 0 ∨ lo x = 1) ∧ (∀ x, n ≤ x → cf x = 0)
theorem fv_congr {wv lo : Nat → Int32} {cf tf : Nat → Nat} {T T1 : Nat → Nat → Int32} {x d : Nat} (h : ∀ e, d = e + 1 → T1 e = T e) : fv wv lo cf tf T1 x d = fv wv lo cf tf T x d := by
  cases d with
  | zero => rfl
  | succ e => show (if cf x = 0 then _ else gm tf (T1 e) x (cf x - 1)) = (if cf x = 0 then _ else gm tf (T e) x (cf x - 1)); rw [h e rfl]
theorem fv_vv {n : Nat} {wv lo : Nat → Int32} {cf tf : Nat → Nat} (ht : ∀ x, x < n → ∀ j, j < cf x → tf (x * 6 + j) < n) {T : Nat → Nat → Int32} {x d : Nat} (hx : x < n) (h : ∀ e, d = e + 1 → ∀ y, y < n → T e y = vv wv lo cf tf e y) : fv wv lo cf tf T x d = vv wv lo cf tf d x := by
  cases d with
  | zero => rfl
  | succ e =>
    show (if cf x = 0 then _ else gm tf (T e) x (cf x - 1)) = (if cf x = 0 then _ else gm tf (vv wv lo cf tf e) x (cf x - 1))
    by_cases h0 : cf x = 0
    · rw [if_pos h0, if_pos h0]
    · rw [if_neg h0, if_neg h0]
      exact gm_congr _ (fun j hj => h e rfl _ (ht x hx j (by omega)))
set_option maxHeartbeats 4000000 in
set_option maxRecDepth 100000 in
/-- forgetTable -/
theorem kX0_forgetTable (l : Launch) (dC : Nat → ClassId) (dI : Nat → Nat → Nat) (cI cZ cA : ClassId) (a : Nat → Nat) (sz : Nat) (n : Nat) (am : Nat) (rf : Nat) (mk : Nat) (wv : Nat → Int32) (lo : Nat → Int32) (cf : Nat → Nat) (tf : Nat → Nat) (T : Nat → Nat → Int32) (mt : Nat → Nat) (im : Nat → Int32)   : Met l yX0_forgetTable wsX0_forgetTable ({ frames := 0, cells := 0, slots := 0, locals := 0 }) (va_Pc [.ref (a 0)] (WP dC dI (GT cI cZ cA) (XW cI cZ cA a n am rf mk wv lo cf tf T mt im) sz)) (va_Qv (fun _ : Unit => True) (fun _ => WQ dC dI (GT cI cZ cA) (va_A (XW cI cZ cA a n am rf mk wv lo cf tf T mt im) sz) (XW cI cZ cA a n am 0 mk wv lo cf tf T mt im)) (va_A (XW cI cZ cA a n am rf mk wv lo cf tf T mt im) sz)) 0 0 (va_A (XW cI cZ cA a n am rf mk wv lo cf tf T mt im) sz) := by
  refine Met.ofW (cc := cX0_forgetTable) (maxL := 1) (ret := none) (by decide) rfl ?_
  intro p e s m args below meth c s₁ B hml hv
  obtain ⟨rfl, hsz, hP, hK, hD0⟩ := hv
  have hx := B.exec
  have hb := B.bytes
  have hr := B.returns
  have hts := atoms_spec (ws := wsX0_forgetTable) B.pre
  have hown : s.vm.findClass RX0 = some m.cls := findClass_of_methodNamed B.named
  have hlocks := B.notSynchronized
  have hf_35 := hts (.fieldLink RX0 35 "GraphSearch" "rowsFound" "I") (by decide +kernel)
  have hiw : ∀ w ∈ wsX00, w ∈ wsX0_forgetTable := by decide +kernel
  subst hsz
  have hD := hD0.self (sz := s.heap.size)
  generalize hAe : va_A (XW cI cZ cA a n am rf mk wv lo cf tf T mt im) s.heap.size = A at hD ⊢
  have hA : ∀ q : Nat, s.heap.size ≤ q → A q := fun q h => by rw [← hAe]; exact Or.inr h
  have hS : va_S A s.heap s.heap [] := va_S.rf
  have hP : va_P (dC, dI) vwCl (XW cI cZ cA a n am rf mk wv lo cf tf T mt im) s.heap := hP
  have hl := lv_entry ([.ref (a 0)]) (n := 1) (Nat.le_of_ble_eq_true rfl)
  rw [lg_entry_eq]
  generalize (lg_sl ([.ref (a 0)]) ++ List.replicate (1 - (lg_sl ([.ref (a 0)])).length) Slot.unset).toArray = ls at hl ⊢
  have hl : lv_has ls 1 [(0, .ref (a 0))] := hl
  refine lv_aload_n hx hb dX0_forgetTable_0 rfl (lv_at hl 0 rfl) ?_
  refine lv_iconst (v := 0) hx hb dX0_forgetTable_1 (by decide) ?_
  refine ga_is (y := nI 0) (rfl) ?_
  refine va_put (D := (dC, dI)) (ci := 0) (v := .int (nI 0)) (ty := .int) (C := RX0) (T := TX0) (N := 11) hx hb hts hiw tyX0 tyX0_ok nmX0 hown hK hP hD hS 0 rfl rfl 7 (by decide) hf_35 (fun _ h9 => h9) rfl (by decide +kernel) rfl rfl (Nat.le_of_ble_eq_true rfl) dX0_forgetTable_2 (fun H locs hP hD hS => ?_)
  have hP : va_P (dC, dI) vwCl (XW cI cZ cA a n am 0 mk wv lo cf tf T mt im) H := hP
  have hD : va_D A (XW cI cZ cA a n am 0 mk wv lo cf tf T mt im) := hD
  exact W.vret hx hb hr (fun t ht hW => ⟨⟨(), rfl, trivial, by rw [ht]; exact hP, va_K.moved hW.alike hK, hD⟩, hS.F ht⟩) hS.2.2 dX0_forgetTable_5
set_option maxHeartbeats 4000000 in
set_option maxRecDepth 100000 in
/-- findRow -/
theorem kX0_findRow (l : Launch) (dC : Nat → ClassId) (dI : Nat → Nat → Nat) (cI cZ cA : ClassId) (a : Nat → Nat) (sz : Nat) (n : Nat) (am : Nat) (rf : Nat) (mk : Nat) (wv : Nat → Int32) (lo : Nat → Int32) (cf : Nat → Nat) (tf : Nat → Nat) (T : Nat → Nat → Int32) (mt : Nat → Nat) (im : Nat → Int32) (d : Nat) (hd : d < 8) (hG : Gok n wv lo cf tf) (hg : ∀ e, d = e + 1 → ∀ x, x < n → rg (T e x)) : Met l yX0_findRow wsX0_findRow ({ frames := 3, cells := 0, slots := 0, locals := 68 }) (va_Pc [.ref (a 0), .int (nI d)] (WP dC dI (GT cI cZ cA) (XW cI cZ cA a n am rf mk wv lo cf tf T mt im) sz)) (va_Qv (fun T1 : Nat → Nat → Int32 => (∀ e, e ≠ d → T1 e = T e) ∧ ∀ x, x < n → T1 d x = fv wv lo cf tf T x d) (fun T1 => WQ dC dI (GT cI cZ cA) (va_A (XW cI cZ cA a n am rf mk wv lo cf tf T mt im) sz) (XW cI cZ cA a n am rf mk wv lo cf tf T1 mt im)) (va_A (XW cI cZ cA a n am rf mk wv lo cf tf T mt im) sz)) 0 0 (va_A (XW cI cZ cA a n am rf mk wv lo cf tf T mt im) sz) := by
  refine Met.ofW (cc := cX0_findRow) (maxL := 3) (ret := none) (by decide) rfl ?_
  intro p e s m args below meth c s₁ B hml hv
  obtain ⟨rfl, hsz, hP, hK, hD0⟩ := hv
  have hx := B.exec
  have hb := B.bytes
  have hr := B.returns
  have hts := atoms_spec (ws := wsX0_findRow) B.pre
  have hown : s.vm.findClass RX0 = some m.cls := findClass_of_methodNamed B.named
  have hlocks := B.notSynchronized
  have hf_23 := hts (.fieldLink RX0 23 "GraphSearch" "nodeCount" "I") (by decide +kernel)
  have hf_32 := hts (.fieldLink RX0 32 "GraphSearch" "table" "[[I") (by decide +kernel)
  have hiw : ∀ w ∈ wsX00, w ∈ wsX0_findRow := by decide +kernel
  subst hsz
  have hD := hD0.self (sz := s.heap.size)
  generalize hAe : va_A (XW cI cZ cA a n am rf mk wv lo cf tf T mt im) s.heap.size = A at hD ⊢
  have hA : ∀ q : Nat, s.heap.size ≤ q → A q := fun q h => by rw [← hAe]; exact Or.inr h
  have hS : va_S A s.heap s.heap [] := va_S.rf
  have hP : va_P (dC, dI) vwCl (XW cI cZ cA a n am rf mk wv lo cf tf T mt im) s.heap := hP
  have hl := lv_entry ([.ref (a 0), .int (nI d)]) (n := 3) (Nat.le_of_ble_eq_true rfl)
  rw [lg_entry_eq]
  generalize (lg_sl ([.ref (a 0), .int (nI d)]) ++ List.replicate (3 - (lg_sl ([.ref (a 0), .int (nI d)])).length) Slot.unset).toArray = ls at hl ⊢
  have hl : lv_has ls 3 [(0, .ref (a 0)), (1, .int (nI d))] := hl
  obtain ⟨hn4, hwr, hc, htt, hlo, hz0⟩ := hG
  refine lv_iconst (v := 0) hx hb dX0_findRow_0 (by decide) ?_
  refine ga_is (y := nI 0) (rfl) ?_
  refine lv_istore_n (lv' := [(2, .int (nI 0)), (0, .ref (a 0)), (1, .int (nI d))]) hx hb dX0_findRow_1 rfl hl (by decide) rfl (fun ls hl => ?_)
  have loop : ∀ (k j : Nat), j + k = n → ∀ T1 : Nat → Nat → Int32, (∀ e, e ≠ d → T1 e = T e) → (∀ x, x < j → T1 d x = fv wv lo cf tf T x d) → ∀ (H : Heap) (locs : List Loc), va_P (dC, dI) vwCl (XW cI cZ cA a n am rf mk wv lo cf tf T1 mt im) H → va_D A (XW cI cZ cA a n am rf mk wv lo cf tf T1 mt im) → va_S A s.heap H locs → ∀ ls : Array Slot, lv_has ls 3 [(2, .int (nI j)), (0, .ref (a 0)), (1, .int (nI d))] → W p l e (headSpec wsX0_findRow (({ frames := 3, cells := 0, slots := 0, locals := 68 }) : Room)).room s m ([.ref (a 0), .int (nI d)] : List Value).toArray below meth c H locs 0 0 (MQ below (va_Qv (fun T1 : Nat → Nat → Int32 => (∀ e, e ≠ d → T1 e = T e) ∧ ∀ x, x < n → T1 d x = fv wv lo cf tf T x d) (fun T1 => WQ dC dI (GT cI cZ cA) A (XW cI cZ cA a n am rf mk wv lo cf tf T1 mt im)) A) ([.ref (a 0), .int (nI d)] : List Value).toArray s 0 0 A) (F0 m 2 ls []) := by
    intro k
    induction k with
    | zero =>
      intro j hj T1 h1 h2 H locs hP hD hS ls hl
      obtain rfl : j = n := by omega
      refine lv_iload_n hx hb dX0_findRow_2 rfl (lv_at hl 0 rfl) ?_
      refine lv_aload_n hx hb dX0_findRow_3 rfl (lv_at hl 1 rfl) ?_
      refine va_get (D := (dC, dI)) (ci := 0) (v := .int (nI j)) (C := RX0) (T := TX0) (N := 11) hx hb hts hiw hown hK hP 0 rfl rfl 4 (by decide) hf_23 (fun _ h9 => h9) rfl dX0_findRow_4 ?_
      refine lv_icmp_ge (tgt := 30) hx hb dX0_findRow_7 (by decide) (fun h7 => ?_) (fun h7 => absurd (Int32.le_refl _) h7)
      exact W.vret hx hb hr (fun t ht hW => ⟨⟨T1, rfl, ⟨h1, h2⟩, by rw [ht]; exact hP, va_K.moved hW.alike hK, hD⟩, hS.F ht⟩) hS.2.2 dX0_findRow_30
    | succ k ih =>
      intro j hj T1 h1 h2 H locs hP hD hS ls hl
      refine lv_iload_n hx hb dX0_findRow_2 rfl (lv_at hl 0 rfl) ?_
      refine lv_aload_n hx hb dX0_findRow_3 rfl (lv_at hl 1 rfl) ?_
      refine va_get (D := (dC, dI)) (ci := 0) (v := .int (nI n)) (C := RX0) (T := TX0) (N := 11) hx hb hts hiw hown hK hP 0 rfl rfl 4 (by decide) hf_23 (fun _ h9 => h9) rfl dX0_findRow_4 ?_
      refine lv_icmp_ge (tgt := 30) hx hb dX0_findRow_7 (by decide) (fun h7 => absurd h7 (nI_ge (by omega) (by omega))) (fun h7 => ?_)
      refine lv_aload_n hx hb dX0_findRow_10 rfl (lv_at hl 1 rfl) ?_
      refine va_get (D := (dC, dI)) (ci := 0) (v := .ref (a 5)) (C := RX0) (T := TX0) (N := 11) hx hb hts hiw hown hK hP 0 rfl rfl 6 (by decide) hf_32 (fun _ h9 => h9) rfl dX0_findRow_11 ?_
      refine lv_iload_n hx hb dX0_findRow_14 rfl (lv_at hl 2 rfl) ?_
      refine ga_aald hx hb hK hP 5 2 rfl rfl d (a (8 + d)) (if_pos (by omega)) (by omega) (by decide) dX0_findRow_15 ?_
      refine lv_iload_n hx hb dX0_findRow_16 rfl (lv_at hl 0 rfl) ?_
      refine lv_aload_n hx hb dX0_findRow_17 rfl (lv_at hl 1 rfl) ?_
      refine lv_iload_n hx hb dX0_findRow_18 rfl (lv_at hl 0 rfl) ?_
      refine lv_iload_n hx hb dX0_findRow_19 rfl (lv_at hl 2 rfl) ?_
      refine W.callR (r := fv wv lo cf tf T1 j d) (W.runV (As := [.int (nI j), .int (nI d)]) (rest := [.int (nI j), .ref (a (8 + d))]) ⟨hx, hb, hml, hown, hts⟩ (kX0_findValue l dC dI cI cZ cA a n am rf mk wv lo cf tf T1 mt im j d hd (by omega) (hc j (by omega)) (fun i hi => by have := htt j (by omega) i hi; omega) (fun e he i hi => by rw [h1 e (by omega)]; exact hg e he _ (htt j (by omega) i hi))) (cwV 2 hts gX0_findRow_X0_findValue rfl rfl rfl (by decide +kernel) ⟨Nat.le_of_ble_eq_true rfl, Nat.le_of_ble_eq_true rfl⟩) ⟨blindR, va_recv hK hP (ci := 0) (q0 := 0) rfl rfl, preR hP hK⟩ rfl rfl hl.1 rfl (lv_room (Nat.le_of_ble_eq_true rfl)) dX0_findRow_20 ⟨Nat.zero_le _, Nat.zero_le _⟩) ?_
      refine W.eq (g2 := F0 m 23 ls [.int (fv wv lo cf tf T1 j d), .int (nI j), .ref (a (8 + d))]) rfl ?_
      refine ga_iast hx hb hK hP hD hS (8 + d) 0 (XW_row (by omega)) rfl j (by omega) (by decide) rfl (ws' := XW cI cZ cA a n am rf mk wv lo cf tf (va_up T1 d (upd (T1 d) j (fv wv lo cf tf T1 j d))) mt im) XW_put dX0_findRow_23 (fun H locs hP hD hS => ?_)
      refine lv_iinc (v := nI (j + 1)) (lv' := [(2, .int (nI (j + 1))), (0, .ref (a 0)), (1, .int (nI d))]) hx hb dX0_findRow_24 hl (k := 0) rfl (nI_1 j) (by decide) rfl (fun ls hl => ?_)
      refine lv_goto (tgt := 2) hx hb dX0_findRow_27 (by decide) ?_
      refine ih (j + 1) (by omega) _ (fun e he => by rw [va_up_ne _ _ he]; exact h1 e he) (fun x hx => ?_) H locs hP hD hS ls (lv_sub hl [0, 1, 2] rfl)
      rw [va_up_self]
      unfold upd
      by_cases hxj : x = j
      · rw [if_pos hxj, hxj]; exact fv_congr (fun e he => h1 e (by omega))
      · rw [if_neg hxj]; exact h2 x (by omega)
  exact loop n 0 (by omega) T (fun _ _ => rfl) (fun x hx => absurd hx (by omega)) s.heap [] hP hD hS ls (lv_sub hl [0, 1, 2] rfl)
set_option maxHeartbeats 4000000 in
set_option maxRecDepth 100000 in
/-- deepenTo -/
theorem kX0_deepenTo (l : Launch) (dC : Nat → ClassId) (dI : Nat → Nat → Nat) (cI cZ cA : ClassId) (a : Nat → Nat) (sz : Nat) (n : Nat) (am : Nat) (rf : Nat) (mk : Nat) (wv : Nat → Int32) (lo : Nat → Int32) (cf : Nat → Nat) (tf : Nat → Nat) (T : Nat → Nat → Int32) (mt : Nat → Nat) (im : Nat → Int32) (d : Nat) (hd : d < 8) (hG : Gok n wv lo cf tf) (hrf : rf ≤ 8) (hv : ∀ e, e < rf → ∀ x, x < n → T e x = vv wv lo cf tf e x) : Met l yX0_deepenTo wsX0_deepenTo ({ frames := 4, cells := 0, slots := 0, locals := 90 }) (va_Pc [.ref (a 0), .int (nI d)] (WP dC dI (GT cI cZ cA) (XW cI cZ cA a n am rf mk wv lo cf tf T mt im) sz)) (va_Qv (fun u : Nat × (Nat → Nat → Int32) => d < u.1 ∧ u.1 ≤ 8 ∧ ∀ e, e < u.1 → ∀ x, x < n → u.2 e x = vv wv lo cf tf e x) (fun u => WQ dC dI (GT cI cZ cA) (va_A (XW cI cZ cA a n am rf mk wv lo cf tf T mt im) sz) (XW cI cZ cA a n am (u.1) mk wv lo cf tf (u.2) mt im)) (va_A (XW cI cZ cA a n am rf mk wv lo cf tf T mt im) sz)) 0 0 (va_A (XW cI cZ cA a n am rf mk wv lo cf tf T mt im) sz) := by
  refine Met.ofW (cc := cX0_deepenTo) (maxL := 3) (ret := none) (by decide) rfl ?_
  intro p e s m args below meth c s₁ B hml hv
  obtain ⟨rfl, hsz, hP, hK, hD0⟩ := hv
  have hx := B.exec
  have hb := B.bytes
  have hr := B.returns
  have hts := atoms_spec (ws := wsX0_deepenTo) B.pre
  have hown : s.vm.findClass RX0 = some m.cls := findClass_of_methodNamed B.named
  have hlocks := B.notSynchronized
  have hf_35 := hts (.fieldLink RX0 35 "GraphSearch" "rowsFound" "I") (by decide +kernel)
  have hiw : ∀ w ∈ wsX00, w ∈ wsX0_deepenTo := by decide +kernel
  subst hsz
  have hD := hD0.self (sz := s.heap.size)
  generalize hAe : va_A (XW cI cZ cA a n am rf mk wv lo cf tf T mt im) s.heap.size = A at hD ⊢
  have hA : ∀ q : Nat, s.heap.size ≤ q → A q := fun q h => by rw [← hAe]; exact Or.inr h
  have hS : va_S A s.heap s.heap [] := va_S.rf
  have hP : va_P (dC, dI) vwCl (XW cI cZ cA a n am rf mk wv lo cf tf T mt im) s.heap := hP
  have hl := lv_entry ([.ref (a 0), .int (nI d)]) (n := 3) (Nat.le_of_ble_eq_true rfl)
  rw [lg_entry_eq]
  generalize (lg_sl ([.ref (a 0), .int (nI d)]) ++ List.replicate (3 - (lg_sl ([.ref (a 0), .int (nI d)])).length) Slot.unset).toArray = ls at hl ⊢
  have hl : lv_has ls 3 [(0, .ref (a 0)), (1, .int (nI d))] := hl
  obtain ⟨hn4, hwr, hc, htt, hlo, hz0⟩ := id hG
  refine lv_aload_n hx hb dX0_deepenTo_0 rfl (lv_at hl 0 rfl) ?_
  refine va_get (D := (dC, dI)) (ci := 0) (v := .int (nI rf)) (C := RX0) (T := TX0) (N := 11) hx hb hts hiw hown hK hP 0 rfl rfl 7 (by decide) hf_35 (fun _ h9 => h9) rfl dX0_deepenTo_1 ?_
  refine lv_istore_n (lv' := [(2, .int (nI rf)), (0, .ref (a 0)), (1, .int (nI d))]) hx hb dX0_deepenTo_4 rfl hl (by decide) rfl (fun ls hl => ?_)
  have loop : ∀ (k r : Nat), r + k = 9 → r ≤ 8 → ∀ T1 : Nat → Nat → Int32, (∀ e, e < r → ∀ x, x < n → T1 e x = vv wv lo cf tf e x) → ∀ (H : Heap) (locs : List Loc), va_P (dC, dI) vwCl (XW cI cZ cA a n am r mk wv lo cf tf T1 mt im) H → va_D A (XW cI cZ cA a n am r mk wv lo cf tf T1 mt im) → va_S A s.heap H locs → ∀ ls : Array Slot, lv_has ls 3 [(2, .int (nI r)), (0, .ref (a 0)), (1, .int (nI d))] → W p l e (headSpec wsX0_deepenTo (({ frames := 4, cells := 0, slots := 0, locals := 90 }) : Room)).room s m ([.ref (a 0), .int (nI d)] : List Value).toArray below meth c H locs 0 0 (MQ below (va_Qv (fun u : Nat × (Nat → Nat → Int32) => d < u.1 ∧ u.1 ≤ 8 ∧ ∀ e, e < u.1 → ∀ x, x < n → u.2 e x = vv wv lo cf tf e x) (fun u => WQ dC dI (GT cI cZ cA) A (XW cI cZ cA a n am (u.1) mk wv lo cf tf (u.2) mt im)) A) ([.ref (a 0), .int (nI d)] : List Value).toArray s 0 0 A) (F0 m 5 ls []) := by
    intro k
    induction k with
    | zero => intro r h1 h2; exact absurd h1 (by omega)
    | succ k ih =>
      intro r hr9 hr8 T1 h1 H locs hP hD hS ls hl
      refine lv_iload_n hx hb dX0_deepenTo_5 rfl (lv_at hl 0 rfl) ?_
      refine lv_iload_n hx hb dX0_deepenTo_6 rfl (lv_at hl 2 rfl) ?_
      refine lv_icmp_gt (tgt := 28) hx hb dX0_deepenTo_7 (by decide) (fun h7 => ?_) (fun h7 => ?_)
      · exact W.vret hx hb hr (fun t ht hW => ⟨⟨(r, T1), rfl, ⟨by rcases Nat.lt_or_ge d r with z | z; exact z; exact absurd h7 (nI_nlt z (by omega)), hr8, h1⟩, by rw [ht]; exact hP, va_K.moved hW.alike hK, hD⟩, hS.F ht⟩) hS.2.2 dX0_deepenTo_28
      · have hrd : r ≤ d := by rcases Nat.lt_or_ge d r with z | z; exact absurd (nI_lt z (by omega)) h7; exact z
        refine lv_aload_n hx hb dX0_deepenTo_10 rfl (lv_at hl 1 rfl) ?_
        refine lv_iload_n hx hb dX0_deepenTo_11 rfl (lv_at hl 0 rfl) ?_
        have hF := freeAll hD hS hA
        refine va_callv (va_runV (As := [.int (nI r)]) (rest := []) ⟨hx, hb, hml, hown, hts⟩ (kX0_findRow l dC dI cI cZ cA a H.size n am r mk wv lo cf tf T1 mt im r (by omega) hG (fun e he x hx => by rw [h1 e (by omega) x hx]; exact vv_rg hwr htt e x hx)) (cwV 1 hts gX0_deepenTo_X0_findRow rfl rfl rfl (by decide +kernel) ⟨Nat.le_of_ble_eq_true rfl, Nat.le_of_ble_eq_true rfl⟩) ⟨blindW, va_recv hK hP (ci := 0) (q0 := 0) rfl rfl, preW hP hK hD⟩ rfl rfl hl.1 rfl (lv_room (Nat.le_of_ble_eq_true rfl)) dX0_deepenTo_12 ⟨Nat.zero_le _, Nat.zero_le _⟩) hS (fun q _ h => hF q h) hF (fun T2 tS H1 locs htS hvm hw hB hz1 hk1 hS => ?_)
        obtain ⟨hP1, hK1, hD1⟩ := hB
        rw [htS] at hP1
        have hP : va_P (dC, dI) vwCl (XW cI cZ cA a n am r mk wv lo cf tf T2 mt im) H1 := hP1
        have hD : va_D A (XW cI cZ cA a n am r mk wv lo cf tf T2 mt im) := hD1.weaken (fun _ _ _ h => hF _ h)
        generalize H1 = H at hP hS ⊢
        refine W.eq (g2 := F0 m 15 ls []) rfl ?_
        refine lv_aload_n hx hb dX0_deepenTo_15 rfl (lv_at hl 1 rfl) ?_
        refine lv_iload_n hx hb dX0_deepenTo_16 rfl (lv_at hl 0 rfl) ?_
        refine lv_iconst (v := 1) hx hb dX0_deepenTo_17 (by decide) ?_
        refine lv_iadd hx hb dX0_deepenTo_18 ?_
        refine ga_is (y := nI (r + 1)) (nI_1 r) ?_
        refine va_put (D := (dC, dI)) (ci := 0) (v := .int (nI (r + 1))) (ty := .int) (C := RX0) (T := TX0) (N := 11) hx hb hts hiw tyX0 tyX0_ok nmX0 hown hK hP hD hS 0 rfl rfl 7 (by decide) hf_35 (fun _ h9 => h9) rfl (by decide +kernel) rfl rfl (Nat.le_of_ble_eq_true rfl) dX0_deepenTo_19 (fun H locs hP hD hS => ?_)
        have hP : va_P (dC, dI) vwCl (XW cI cZ cA a n am (r + 1) mk wv lo cf tf T2 mt im) H := hP
        have hD : va_D A (XW cI cZ cA a n am (r + 1) mk wv lo cf tf T2 mt im) := hD
        refine lv_iinc (v := nI (r + 1)) (lv' := [(2, .int (nI (r + 1))), (0, .ref (a 0)), (1, .int (nI d))]) hx hb dX0_deepenTo_22 hl (k := 0) rfl (nI_1 r) (by decide) rfl (fun ls hl => ?_)
        refine lv_goto (tgt := 5) hx hb dX0_deepenTo_25 (by decide) ?_
        refine ih (r + 1) (by omega) (by omega) T2 (fun e he x hx => ?_) H locs hP hD hS ls (lv_sub hl [0, 1, 2] rfl)
        by_cases her : e = r
        · rw [her, hw.2 x hx]; exact fv_vv htt hx (fun e2 he2 y hy => h1 e2 (by omega) y hy)
        · rw [hw.1 e her]; exact h1 e (by omega) x hx
  exact loop (9 - rf) rf (by omega) hrf T hv s.heap [] hP hD hS ls (lv_sub hl [0, 1, 2] rfl)
