/-- the rows of the table that hold -/
def Tok (n : Nat) (wv lo : Nat → Int32) (cf tf : Nat → Nat) (rf : Nat) (T : Nat → Nat → Int32) : Prop := rf ≤ 8 ∧ ∀ e, e < rf → ∀ x, x < n → T e x = vv wv lo cf tf e x
theorem fst_congr {f g : Nat → Int32} {v w : Int32} (hv : v = w) : ∀ k j : Nat, (∀ i, j ≤ i → i < j + k → f i = g i) → fst_ f v k j = fst_ g w k j
  | 0, _, _ => rfl
  | k + 1, j, h => by
    show (if f j = v then nI j else fst_ f v k (j + 1)) = (if g j = w then nI j else fst_ g w k (j + 1))
    rw [h j (Nat.le_refl _) (by omega), hv, fst_congr rfl k (j + 1) (fun i h1 h2 => h i (by omega) (by omega))]
theorem fst_or {f : Nat → Int32} {v : Int32} : ∀ k j : Nat, fst_ f v k j = (-1) ∨ ∃ i, j ≤ i ∧ i < j + k ∧ fst_ f v k j = nI i
  | 0, _ => Or.inl rfl
  | k + 1, j => by
    show (if f j = v then nI j else fst_ f v k (j + 1)) = (-1) ∨ ∃ i, j ≤ i ∧ i < j + (k + 1) ∧ (if f j = v then nI j else fst_ f v k (j + 1)) = nI i
    by_cases h : f j = v
    · rw [if_pos h]; exact Or.inr ⟨j, Nat.le_refl _, by omega, rfl⟩
    · rw [if_neg h]
      rcases fst_or (f := f) (v := v) k (j + 1) with q | ⟨i, h1, h2, h3⟩
      · exact Or.inl q
      · exact Or.inr ⟨i, by omega, by omega, h3⟩
theorem bm_or {cf tf : Nat → Nat} {T : Nat → Nat → Int32} {x : Nat} : ∀ d : Nat, bm cf tf T x d = (-1) ∨ ∃ i, i < cf x ∧ bm cf tf T x d = nI i
  | 0 => Or.inl rfl
  | d + 1 => by
    rcases fst_or (f := gv tf (T d) x) (v := T (d + 1) x) (cf x) 0 with q | ⟨i, h1, h2, h3⟩
    · exact Or.inl q
    · exact Or.inr ⟨i, by omega, h3⟩
theorem bm_congr {n : Nat} {cf tf : Nat → Nat} {T V : Nat → Nat → Int32} {x : Nat} (hx : x < n) (ht : ∀ x, x < n → ∀ j, j < cf x → tf (x * 6 + j) < n) : ∀ d : Nat, (∀ e, e ≤ d → ∀ y, y < n → T e y = V e y) → bm cf tf T x d = bm cf tf V x d
  | 0, _ => rfl
  | d + 1, h => fst_congr (h (d + 1) (Nat.le_refl _) x hx) _ _ (fun i _ h2 => gv_congr (h d (Nat.le_succ _) _ (ht x hx i (by omega))))
theorem cnt_congr {f g : Nat → Int32} {v w : Int32} (hv : v = w) : ∀ k : Nat, (∀ i, i < k → f i = g i) → cnt_ f v k = cnt_ g w k
  | 0, _ => rfl
  | k + 1, h => by
    show cnt_ f v k + (if f k = v then 1 else 0) = cnt_ g w k + (if g k = w then 1 else 0)
    rw [cnt_congr hv k (fun i hi => h i (by omega)), h k (by omega), hv]
theorem set_congr {f g : Nat → Int32} {v w : Int32} (hv : v = w) : ∀ k : Nat, (∀ i, i < k → f i = g i) → set_ f v k = set_ g w k
  | 0, _ => rfl
  | k + 1, h => by
    show (if f k = v then set_ f v k else k + 1) = (if g k = w then set_ g w k else k + 1)
    rw [set_congr hv k (fun i hi => h i (by omega)), h k (by omega), hv]
theorem set_le {f : Nat → Int32} {v : Int32} : ∀ k : Nat, set_ f v k ≤ k
  | 0 => Nat.le_refl _
  | k + 1 => by
    show (if f k = v then set_ f v k else k + 1) ≤ k + 1
    have := set_le (f := f) (v := v) k
    by_cases h : f k = v
    · rw [if_pos h]; omega
    · rw [if_neg h]; omega
theorem cnt_le {f : Nat → Int32} {v : Int32} : ∀ k : Nat, cnt_ f v k ≤ k
  | 0 => Nat.le_refl _
  | k + 1 => by
    show cnt_ f v k + (if f k = v then 1 else 0) ≤ k + 1
    have := cnt_le (f := f) (v := v) k
    by_cases h : f k = v
    · rw [if_pos h]; omega
    · rw [if_neg h]; omega
def rea (V v : Int32) : Int32 := if V < v then 0 else 1
/-- k steps of best play from x at the depth d -/
def lin (cf tf : Nat → Nat) (V : Nat → Nat → Int32) : Nat → Nat → Nat → Int32
  | 0, x, _ => nI x
  | k + 1, x, d => if bm cf tf V x d = (-1) then (-1) else lin cf tf V k (tf (x * 6 + (bm cf tf V x d).toNatClampNeg)) (d - 1)
theorem m1_nI {i : Nat} (h : i < 2 ^ 31) : nI i ≠ (-1) := fun q => nI_pos h (by rw [q]; decide +kernel)
set_option maxHeartbeats 4000000 in
set_option maxRecDepth 100000 in
/-- refuseWrongQuestion, a right one -/
theorem kX0_refuse (l : Launch) (dC : Nat → ClassId) (dI : Nat → Nat → Nat) (cI cZ cA : ClassId) (a : Nat → Nat) (n : Nat) (am : Nat) (rf : Nat) (mk : Nat) (wv : Nat → Int32) (lo : Nat → Int32) (cf : Nat → Nat) (tf : Nat → Nat) (T : Nat → Nat → Int32) (mt : Nat → Nat) (im : Nat → Int32) (j d : Nat) (hn4 : n ≤ 400) (hj : j < n) (hd : d < 8) : Met l yX0_refuseWrongQuestion wsX0_refuseWrongQuestion ({ frames := 6, cells := 0, slots := 0, locals := 82 }) (va_Pc [.ref (a 0), .int (nI j), .int (nI d)] (RP dC dI (GT cI cZ cA) (XW cI cZ cA a n am rf mk wv lo cf tf T mt im))) (va_Sv (fun _ => True)) 0 0 (fun _ => False) := by
  refine Met.ofW (cc := cX0_refuseWrongQuestion) (maxL := 3) (ret := none) (by decide) rfl ?_
  intro p e s m args below meth c s₁ B hml hv
  obtain ⟨rfl, hP, hK⟩ := hv
  have hx := B.exec
  have hb := B.bytes
  have hr := B.returns
  have hts := atoms_spec (ws := wsX0_refuseWrongQuestion) B.pre
  have hown : s.vm.findClass RX0 = some m.cls := findClass_of_methodNamed B.named
  have hlocks := B.notSynchronized
  have hl := lv_entry ([.ref (a 0), .int (nI j), .int (nI d)]) (n := 3) (Nat.le_of_ble_eq_true rfl)
  rw [lg_entry_eq]
  generalize (lg_sl ([.ref (a 0), .int (nI j), .int (nI d)]) ++ List.replicate (3 - (lg_sl ([.ref (a 0), .int (nI j), .int (nI d)])).length) Slot.unset).toArray = ls at hl ⊢
  have hl : lv_has ls 3 [(0, .ref (a 0)), (1, .int (nI j)), (2, .int (nI d))] := hl
  refine lv_aload_n hx hb dX0_refuseWrongQuestion_0 rfl (lv_at hl 0 rfl) ?_
  refine lv_iload_n hx hb dX0_refuseWrongQuestion_1 rfl (lv_at hl 1 rfl) ?_
  refine W.callR (r := isn (nI j) n) (W.runV (As := [.int (nI j)]) (rest := []) ⟨hx, hb, hml, hown, hts⟩ (kX0_isNode l dC dI cI cZ cA a n am rf mk wv lo cf tf T mt im (nI j)) (cwV 1 hts gX0_refuseWrongQuestion_X0_isNode rfl rfl rfl (by decide +kernel) ⟨Nat.le_of_ble_eq_true rfl, Nat.le_of_ble_eq_true rfl⟩) ⟨blindR, va_recv hK hP (ci := 0) (q0 := 0) rfl rfl, preR hP hK⟩ rfl rfl hl.1 rfl (lv_room (Nat.le_of_ble_eq_true rfl)) dX0_refuseWrongQuestion_2 ⟨Nat.zero_le _, Nat.zero_le _⟩) ?_
  refine W.eq (g2 := F0 m 5 ls [.int (isn (nI j) n)]) rfl ?_
  refine lv_if_eq (tgt := 18) hx hb dX0_refuseWrongQuestion_5 (by decide) (fun h5 => absurd h5 (by rw [isn_1 hj (by omega)]; decide)) (fun h5 => ?_)
  refine lv_iload_n hx hb dX0_refuseWrongQuestion_8 rfl (lv_at hl 2 rfl) ?_
  refine lv_if_lt (tgt := 18) hx hb dX0_refuseWrongQuestion_9 (by decide) (fun h9 => absurd h9 (nI_pos (by omega))) (fun h9 => ?_)
  refine lv_iload_n hx hb dX0_refuseWrongQuestion_12 rfl (lv_at hl 2 rfl) ?_
  refine lv_bipush (v := 7) hx hb dX0_refuseWrongQuestion_13 (by decide) ?_
  refine lv_icmp_le (tgt := 28) hx hb dX0_refuseWrongQuestion_15 (by decide) (fun h15 => ?_) (fun h15 => absurd (show nI d ≤ 7 from nI_le (b := 7) (by omega) (by decide)) h15)
  exact W.vret hx hb hr (fun t ht hW => ⟨rfl, trivial, ht⟩) (fun _ h => nomatch h) dX0_refuseWrongQuestion_28
set_option maxHeartbeats 4000000 in
set_option maxRecDepth 100000 in
/-- value -/
theorem kX0_value (l : Launch) (dC : Nat → ClassId) (dI : Nat → Nat → Nat) (cI cZ cA : ClassId) (a : Nat → Nat) (sz : Nat) (n : Nat) (am : Nat) (rf : Nat) (mk : Nat) (wv : Nat → Int32) (lo : Nat → Int32) (cf : Nat → Nat) (tf : Nat → Nat) (T : Nat → Nat → Int32) (mt : Nat → Nat) (im : Nat → Int32) (j d : Nat)  (hd : d < 8) (hG : Gok n wv lo cf tf) (hT : Tok n wv lo cf tf rf T) (hj : j < n)  : Met l yX0_value wsX0_value ({ frames := 7, cells := 0, slots := 0, locals := 112 }) (va_Pc [.ref (a 0), .int (nI j), .int (nI d)] (WP dC dI (GT cI cZ cA) (XW cI cZ cA a n am rf mk wv lo cf tf T mt im) sz)) (va_Qi (fun r (u : Nat × (Nat → Nat → Int32)) => r = vv wv lo cf tf d j ∧ Tok n wv lo cf tf u.1 u.2) (fun u => WQ dC dI (GT cI cZ cA) (va_A (XW cI cZ cA a n am rf mk wv lo cf tf T mt im) sz) (XW cI cZ cA a n am (u.1) mk wv lo cf tf (u.2) mt im)) (va_A (XW cI cZ cA a n am rf mk wv lo cf tf T mt im) sz)) 0 0 (va_A (XW cI cZ cA a n am rf mk wv lo cf tf T mt im) sz) := by
  refine Met.ofW (cc := cX0_value) (maxL := 3) (ret := (some .int)) (by decide) rfl ?_
  intro p e s m args below meth c s₁ B hml hv
  obtain ⟨rfl, hsz, hP, hK, hD0⟩ := hv
  have hx := B.exec
  have hb := B.bytes
  have hr := B.returns
  have hts := atoms_spec (ws := wsX0_value) B.pre
  have hown : s.vm.findClass RX0 = some m.cls := findClass_of_methodNamed B.named
  have hlocks := B.notSynchronized
  have hf_32 := hts (.fieldLink RX0 32 "GraphSearch" "table" "[[I") (by decide +kernel)
  have hiw : ∀ w ∈ wsX00, w ∈ wsX0_value := by decide +kernel
  subst hsz
  have hD := hD0.self (sz := s.heap.size)
  generalize hAe : va_A (XW cI cZ cA a n am rf mk wv lo cf tf T mt im) s.heap.size = A at hD ⊢
  have hA : ∀ q : Nat, s.heap.size ≤ q → A q := fun q h => by rw [← hAe]; exact Or.inr h
  have hS : va_S A s.heap s.heap [] := va_S.rf
  have hP : va_P (dC, dI) vwCl (XW cI cZ cA a n am rf mk wv lo cf tf T mt im) s.heap := hP
  have hl := lv_entry ([.ref (a 0), .int (nI j), .int (nI d)]) (n := 3) (Nat.le_of_ble_eq_true rfl)
  rw [lg_entry_eq]
  generalize (lg_sl ([.ref (a 0), .int (nI j), .int (nI d)]) ++ List.replicate (3 - (lg_sl ([.ref (a 0), .int (nI j), .int (nI d)])).length) Slot.unset).toArray = ls at hl ⊢
  have hl : lv_has ls 3 [(0, .ref (a 0)), (1, .int (nI j)), (2, .int (nI d))] := hl
  obtain ⟨hn4, hwr, hc, htt, hlo, hz0⟩ := id hG
  obtain ⟨hr8, hrv⟩ := id hT
  have hcj := hc j hj
  refine lv_aload_n hx hb dX0_value_0 rfl (lv_at hl 0 rfl) ?_
  refine lv_iload_n hx hb dX0_value_1 rfl (lv_at hl 1 rfl) ?_
  refine lv_iload_n hx hb dX0_value_2 rfl (lv_at hl 2 rfl) ?_
  refine va_csv (W.runV (As := [.int (nI j), .int (nI d)]) (rest := []) ⟨hx, hb, hml, hown, hts⟩ (kX0_refuse l dC dI cI cZ cA a n am rf mk wv lo cf tf T mt im j d hn4 hj hd) (cwV 2 hts gX0_value_X0_refuseWrongQuestion rfl rfl rfl (by decide +kernel) ⟨Nat.le_of_ble_eq_true rfl, Nat.le_of_ble_eq_true rfl⟩) ⟨blindR, va_recv hK hP (ci := 0) (q0 := 0) rfl rfl, preR hP hK⟩ rfl rfl hl.1 rfl (lv_room (Nat.le_of_ble_eq_true rfl)) dX0_value_3 ⟨Nat.zero_le _, Nat.zero_le _⟩) (fun _ => ?_)
  refine W.eq (g2 := F0 m 6 ls []) rfl ?_
  refine lv_aload_n hx hb dX0_value_6 rfl (lv_at hl 0 rfl) ?_
  refine lv_iload_n hx hb dX0_value_7 rfl (lv_at hl 2 rfl) ?_
  have hF := freeAll hD hS hA
  refine va_callv (va_runV (As := [.int (nI d)]) (rest := []) ⟨hx, hb, hml, hown, hts⟩ (kX0_deepenTo l dC dI cI cZ cA a s.heap.size n am rf mk wv lo cf tf T mt im d hd hG hr8 hrv) (cwV 1 hts gX0_value_X0_deepenTo rfl rfl rfl (by decide +kernel) ⟨Nat.le_of_ble_eq_true rfl, Nat.le_of_ble_eq_true rfl⟩) ⟨blindW, va_recv hK hP (ci := 0) (q0 := 0) rfl rfl, preW hP hK hD⟩ rfl rfl hl.1 rfl (lv_room (Nat.le_of_ble_eq_true rfl)) dX0_value_8 ⟨Nat.zero_le _, Nat.zero_le _⟩) hS (fun q _ h => hF q h) hF (fun u tS H1 locs htS hvm hw hB hz1 hk1 hS => ?_)
  obtain ⟨r1, T1⟩ := u
  obtain ⟨hr1, hr18, hv1⟩ : d < r1 ∧ r1 ≤ 8 ∧ ∀ e, e < r1 → ∀ x, x < n → T1 e x = vv wv lo cf tf e x := hw
  obtain ⟨hP1, hK1, hD1⟩ := hB
  rw [htS] at hP1
  have hP : va_P (dC, dI) vwCl (XW cI cZ cA a n am r1 mk wv lo cf tf T1 mt im) H1 := hP1
  have hD : va_D A (XW cI cZ cA a n am r1 mk wv lo cf tf T1 mt im) := hD1.weaken (fun _ _ _ h => hF _ h)
  generalize H1 = H at hP hS ⊢
  refine W.eq (g2 := F0 m 11 ls []) rfl ?_
  refine lv_aload_n hx hb dX0_value_11 rfl (lv_at hl 0 rfl) ?_
  refine va_get (D := (dC, dI)) (ci := 0) (v := .ref (a 5)) (C := RX0) (T := TX0) (N := 11) hx hb hts hiw hown hK hP 0 rfl rfl 6 (by decide) hf_32 (fun _ h9 => h9) rfl dX0_value_12 ?_
  refine lv_iload_n hx hb dX0_value_15 rfl (lv_at hl 2 rfl) ?_
  refine ga_aald hx hb hK hP 5 2 rfl rfl d (a (8 + d)) (if_pos (by omega)) (by omega) (by decide) dX0_value_16 ?_
  refine lv_iload_n hx hb dX0_value_17 rfl (lv_at hl 1 rfl) ?_
  refine ga_iald hx hb hK hP (8 + d) 0 (XW_row (by omega)) rfl j (v := T1 d j) rfl (by omega) (by decide) dX0_value_18 ?_
  exact W.iret (v := (T1 d j)) hx hb hr (fun t ht hW => ⟨⟨(T1 d j), (r1, T1), rfl, ⟨hv1 d hr1 j hj, hr18, hv1⟩, by rw [ht]; exact hP, va_K.moved hW.alike hK, hD⟩, hS.F ht⟩) hS.2.2 dX0_value_19
set_option maxHeartbeats 4000000 in
set_option maxRecDepth 100000 in
/-- best -/
theorem kX0_best (l : Launch) (dC : Nat → ClassId) (dI : Nat → Nat → Nat) (cI cZ cA : ClassId) (a : Nat → Nat) (sz : Nat) (n : Nat) (am : Nat) (rf : Nat) (mk : Nat) (wv : Nat → Int32) (lo : Nat → Int32) (cf : Nat → Nat) (tf : Nat → Nat) (T : Nat → Nat → Int32) (mt : Nat → Nat) (im : Nat → Int32) (j d : Nat)  (hd : d < 8) (hG : Gok n wv lo cf tf) (hT : Tok n wv lo cf tf rf T) (hj : j < n)  : Met l yX0_best wsX0_best ({ frames := 7, cells := 0, slots := 0, locals := 112 }) (va_Pc [.ref (a 0), .int (nI j), .int (nI d)] (WP dC dI (GT cI cZ cA) (XW cI cZ cA a n am rf mk wv lo cf tf T mt im) sz)) (va_Qi (fun r (u : Nat × (Nat → Nat → Int32)) => r = bm cf tf (vv wv lo cf tf) j d ∧ Tok n wv lo cf tf u.1 u.2) (fun u => WQ dC dI (GT cI cZ cA) (va_A (XW cI cZ cA a n am rf mk wv lo cf tf T mt im) sz) (XW cI cZ cA a n am (u.1) mk wv lo cf tf (u.2) mt im)) (va_A (XW cI cZ cA a n am rf mk wv lo cf tf T mt im) sz)) 0 0 (va_A (XW cI cZ cA a n am rf mk wv lo cf tf T mt im) sz) := by
  refine Met.ofW (cc := cX0_best) (maxL := 3) (ret := (some .int)) (by decide) rfl ?_
  intro p e s m args below meth c s₁ B hml hv
  obtain ⟨rfl, hsz, hP, hK, hD0⟩ := hv
  have hx := B.exec
  have hb := B.bytes
  have hr := B.returns
  have hts := atoms_spec (ws := wsX0_best) B.pre
  have hown : s.vm.findClass RX0 = some m.cls := findClass_of_methodNamed B.named
  have hlocks := B.notSynchronized
  subst hsz
  have hD := hD0.self (sz := s.heap.size)
  generalize hAe : va_A (XW cI cZ cA a n am rf mk wv lo cf tf T mt im) s.heap.size = A at hD ⊢
  have hA : ∀ q : Nat, s.heap.size ≤ q → A q := fun q h => by rw [← hAe]; exact Or.inr h
  have hS : va_S A s.heap s.heap [] := va_S.rf
  have hP : va_P (dC, dI) vwCl (XW cI cZ cA a n am rf mk wv lo cf tf T mt im) s.heap := hP
  have hl := lv_entry ([.ref (a 0), .int (nI j), .int (nI d)]) (n := 3) (Nat.le_of_ble_eq_true rfl)
  rw [lg_entry_eq]
  generalize (lg_sl ([.ref (a 0), .int (nI j), .int (nI d)]) ++ List.replicate (3 - (lg_sl ([.ref (a 0), .int (nI j), .int (nI d)])).length) Slot.unset).toArray = ls at hl ⊢
  have hl : lv_has ls 3 [(0, .ref (a 0)), (1, .int (nI j)), (2, .int (nI d))] := hl
  obtain ⟨hn4, hwr, hc, htt, hlo, hz0⟩ := id hG
  obtain ⟨hr8, hrv⟩ := id hT
  have hcj := hc j hj
  refine lv_aload_n hx hb dX0_best_0 rfl (lv_at hl 0 rfl) ?_
  refine lv_iload_n hx hb dX0_best_1 rfl (lv_at hl 1 rfl) ?_
  refine lv_iload_n hx hb dX0_best_2 rfl (lv_at hl 2 rfl) ?_
  refine va_csv (W.runV (As := [.int (nI j), .int (nI d)]) (rest := []) ⟨hx, hb, hml, hown, hts⟩ (kX0_refuse l dC dI cI cZ cA a n am rf mk wv lo cf tf T mt im j d hn4 hj hd) (cwV 2 hts gX0_best_X0_refuseWrongQuestion rfl rfl rfl (by decide +kernel) ⟨Nat.le_of_ble_eq_true rfl, Nat.le_of_ble_eq_true rfl⟩) ⟨blindR, va_recv hK hP (ci := 0) (q0 := 0) rfl rfl, preR hP hK⟩ rfl rfl hl.1 rfl (lv_room (Nat.le_of_ble_eq_true rfl)) dX0_best_3 ⟨Nat.zero_le _, Nat.zero_le _⟩) (fun _ => ?_)
  refine W.eq (g2 := F0 m 6 ls []) rfl ?_
  refine lv_aload_n hx hb dX0_best_6 rfl (lv_at hl 0 rfl) ?_
  refine lv_iload_n hx hb dX0_best_7 rfl (lv_at hl 2 rfl) ?_
  have hF := freeAll hD hS hA
  refine va_callv (va_runV (As := [.int (nI d)]) (rest := []) ⟨hx, hb, hml, hown, hts⟩ (kX0_deepenTo l dC dI cI cZ cA a s.heap.size n am rf mk wv lo cf tf T mt im d hd hG hr8 hrv) (cwV 1 hts gX0_best_X0_deepenTo rfl rfl rfl (by decide +kernel) ⟨Nat.le_of_ble_eq_true rfl, Nat.le_of_ble_eq_true rfl⟩) ⟨blindW, va_recv hK hP (ci := 0) (q0 := 0) rfl rfl, preW hP hK hD⟩ rfl rfl hl.1 rfl (lv_room (Nat.le_of_ble_eq_true rfl)) dX0_best_8 ⟨Nat.zero_le _, Nat.zero_le _⟩) hS (fun q _ h => hF q h) hF (fun u tS H1 locs htS hvm hw hB hz1 hk1 hS => ?_)
  obtain ⟨r1, T1⟩ := u
  obtain ⟨hr1, hr18, hv1⟩ : d < r1 ∧ r1 ≤ 8 ∧ ∀ e, e < r1 → ∀ x, x < n → T1 e x = vv wv lo cf tf e x := hw
  obtain ⟨hP1, hK1, hD1⟩ := hB
  rw [htS] at hP1
  have hP : va_P (dC, dI) vwCl (XW cI cZ cA a n am r1 mk wv lo cf tf T1 mt im) H1 := hP1
  have hD : va_D A (XW cI cZ cA a n am r1 mk wv lo cf tf T1 mt im) := hD1.weaken (fun _ _ _ h => hF _ h)
  generalize H1 = H at hP hS ⊢
  refine W.eq (g2 := F0 m 11 ls []) rfl ?_
  refine lv_aload_n hx hb dX0_best_11 rfl (lv_at hl 0 rfl) ?_
  refine lv_iload_n hx hb dX0_best_12 rfl (lv_at hl 1 rfl) ?_
  refine lv_iload_n hx hb dX0_best_13 rfl (lv_at hl 2 rfl) ?_
  refine W.callR (r := bm cf tf T1 j d) (W.runV (As := [.int (nI j), .int (nI d)]) (rest := []) ⟨hx, hb, hml, hown, hts⟩ (kX0_bestMove l dC dI cI cZ cA a n am r1 mk wv lo cf tf T1 mt im j d hd (by omega) hcj (fun i hi => by have := htt j hj i hi; omega)) (cwV 2 hts gX0_best_X0_bestMove rfl rfl rfl (by decide +kernel) ⟨Nat.le_of_ble_eq_true rfl, Nat.le_of_ble_eq_true rfl⟩) ⟨blindR, va_recv hK hP (ci := 0) (q0 := 0) rfl rfl, preR hP hK⟩ rfl rfl hl.1 rfl (lv_room (Nat.le_of_ble_eq_true rfl)) dX0_best_14 ⟨Nat.zero_le _, Nat.zero_le _⟩) ?_
  refine W.eq (g2 := F0 m 17 ls [.int (bm cf tf T1 j d)]) rfl ?_
  exact W.iret (v := (bm cf tf T1 j d)) hx hb hr (fun t ht hW => ⟨⟨(bm cf tf T1 j d), (r1, T1), rfl, ⟨bm_congr hj htt d (fun e he y hy => hv1 e (by omega) y hy), hr18, hv1⟩, by rw [ht]; exact hP, va_K.moved hW.alike hK, hD⟩, hS.F ht⟩) hS.2.2 dX0_best_17
set_option maxHeartbeats 4000000 in
set_option maxRecDepth 100000 in
/-- reaches -/
theorem kX0_reaches (l : Launch) (dC : Nat → ClassId) (dI : Nat → Nat → Nat) (cI cZ cA : ClassId) (a : Nat → Nat) (sz : Nat) (n : Nat) (am : Nat) (rf : Nat) (mk : Nat) (wv : Nat → Int32) (lo : Nat → Int32) (cf : Nat → Nat) (tf : Nat → Nat) (T : Nat → Nat → Int32) (mt : Nat → Nat) (im : Nat → Int32) (j d : Nat) (v : Int32) (hd : d < 8) (hG : Gok n wv lo cf tf) (hT : Tok n wv lo cf tf rf T) (hj : j < n)  : Met l yX0_reaches wsX0_reaches ({ frames := 7, cells := 0, slots := 0, locals := 112 }) (va_Pc [.ref (a 0), .int (nI j), .int (nI d), .int v] (WP dC dI (GT cI cZ cA) (XW cI cZ cA a n am rf mk wv lo cf tf T mt im) sz)) (va_Qi (fun r (u : Nat × (Nat → Nat → Int32)) => r = rea (vv wv lo cf tf d j) v ∧ Tok n wv lo cf tf u.1 u.2) (fun u => WQ dC dI (GT cI cZ cA) (va_A (XW cI cZ cA a n am rf mk wv lo cf tf T mt im) sz) (XW cI cZ cA a n am (u.1) mk wv lo cf tf (u.2) mt im)) (va_A (XW cI cZ cA a n am rf mk wv lo cf tf T mt im) sz)) 0 0 (va_A (XW cI cZ cA a n am rf mk wv lo cf tf T mt im) sz) := by
  refine Met.ofW (cc := cX0_reaches) (maxL := 4) (ret := (some .boolean)) (by decide) rfl ?_
  intro p e s m args below meth c s₁ B hml hv
  obtain ⟨rfl, hsz, hP, hK, hD0⟩ := hv
  have hx := B.exec
  have hb := B.bytes
  have hr := B.returns
  have hts := atoms_spec (ws := wsX0_reaches) B.pre
  have hown : s.vm.findClass RX0 = some m.cls := findClass_of_methodNamed B.named
  have hlocks := B.notSynchronized
  have hf_32 := hts (.fieldLink RX0 32 "GraphSearch" "table" "[[I") (by decide +kernel)
  have hiw : ∀ w ∈ wsX00, w ∈ wsX0_reaches := by decide +kernel
  subst hsz
  have hD := hD0.self (sz := s.heap.size)
  generalize hAe : va_A (XW cI cZ cA a n am rf mk wv lo cf tf T mt im) s.heap.size = A at hD ⊢
  have hA : ∀ q : Nat, s.heap.size ≤ q → A q := fun q h => by rw [← hAe]; exact Or.inr h
  have hS : va_S A s.heap s.heap [] := va_S.rf
  have hP : va_P (dC, dI) vwCl (XW cI cZ cA a n am rf mk wv lo cf tf T mt im) s.heap := hP
  have hl := lv_entry ([.ref (a 0), .int (nI j), .int (nI d), .int v]) (n := 4) (Nat.le_of_ble_eq_true rfl)
  rw [lg_entry_eq]
  generalize (lg_sl ([.ref (a 0), .int (nI j), .int (nI d), .int v]) ++ List.replicate (4 - (lg_sl ([.ref (a 0), .int (nI j), .int (nI d), .int v])).length) Slot.unset).toArray = ls at hl ⊢
  have hl : lv_has ls 4 [(0, .ref (a 0)), (1, .int (nI j)), (2, .int (nI d)), (3, .int v)] := hl
  obtain ⟨hn4, hwr, hc, htt, hlo, hz0⟩ := id hG
  obtain ⟨hr8, hrv⟩ := id hT
  have hcj := hc j hj
  refine lv_aload_n hx hb dX0_reaches_0 rfl (lv_at hl 0 rfl) ?_
  refine lv_iload_n hx hb dX0_reaches_1 rfl (lv_at hl 1 rfl) ?_
  refine lv_iload_n hx hb dX0_reaches_2 rfl (lv_at hl 2 rfl) ?_
  refine va_csv (W.runV (As := [.int (nI j), .int (nI d)]) (rest := []) ⟨hx, hb, hml, hown, hts⟩ (kX0_refuse l dC dI cI cZ cA a n am rf mk wv lo cf tf T mt im j d hn4 hj hd) (cwV 2 hts gX0_reaches_X0_refuseWrongQuestion rfl rfl rfl (by decide +kernel) ⟨Nat.le_of_ble_eq_true rfl, Nat.le_of_ble_eq_true rfl⟩) ⟨blindR, va_recv hK hP (ci := 0) (q0 := 0) rfl rfl, preR hP hK⟩ rfl rfl hl.1 rfl (lv_room (Nat.le_of_ble_eq_true rfl)) dX0_reaches_3 ⟨Nat.zero_le _, Nat.zero_le _⟩) (fun _ => ?_)
  refine W.eq (g2 := F0 m 6 ls []) rfl ?_
  refine lv_aload_n hx hb dX0_reaches_6 rfl (lv_at hl 0 rfl) ?_
  refine lv_iload_n hx hb dX0_reaches_7 rfl (lv_at hl 2 rfl) ?_
  have hF := freeAll hD hS hA
  refine va_callv (va_runV (As := [.int (nI d)]) (rest := []) ⟨hx, hb, hml, hown, hts⟩ (kX0_deepenTo l dC dI cI cZ cA a s.heap.size n am rf mk wv lo cf tf T mt im d hd hG hr8 hrv) (cwV 1 hts gX0_reaches_X0_deepenTo rfl rfl rfl (by decide +kernel) ⟨Nat.le_of_ble_eq_true rfl, Nat.le_of_ble_eq_true rfl⟩) ⟨blindW, va_recv hK hP (ci := 0) (q0 := 0) rfl rfl, preW hP hK hD⟩ rfl rfl hl.1 rfl (lv_room (Nat.le_of_ble_eq_true rfl)) dX0_reaches_8 ⟨Nat.zero_le _, Nat.zero_le _⟩) hS (fun q _ h => hF q h) hF (fun u tS H1 locs htS hvm hw hB hz1 hk1 hS => ?_)
  obtain ⟨r1, T1⟩ := u
  obtain ⟨hr1, hr18, hv1⟩ : d < r1 ∧ r1 ≤ 8 ∧ ∀ e, e < r1 → ∀ x, x < n → T1 e x = vv wv lo cf tf e x := hw
  obtain ⟨hP1, hK1, hD1⟩ := hB
  rw [htS] at hP1
  have hP : va_P (dC, dI) vwCl (XW cI cZ cA a n am r1 mk wv lo cf tf T1 mt im) H1 := hP1
  have hD : va_D A (XW cI cZ cA a n am r1 mk wv lo cf tf T1 mt im) := hD1.weaken (fun _ _ _ h => hF _ h)
  generalize H1 = H at hP hS ⊢
  refine W.eq (g2 := F0 m 11 ls []) rfl ?_
  refine lv_aload_n hx hb dX0_reaches_11 rfl (lv_at hl 0 rfl) ?_
  refine va_get (D := (dC, dI)) (ci := 0) (v := .ref (a 5)) (C := RX0) (T := TX0) (N := 11) hx hb hts hiw hown hK hP 0 rfl rfl 6 (by decide) hf_32 (fun _ h9 => h9) rfl dX0_reaches_12 ?_
  refine lv_iload_n hx hb dX0_reaches_15 rfl (lv_at hl 2 rfl) ?_
  refine ga_aald hx hb hK hP 5 2 rfl rfl d (a (8 + d)) (if_pos (by omega)) (by omega) (by decide) dX0_reaches_16 ?_
  refine lv_iload_n hx hb dX0_reaches_17 rfl (lv_at hl 1 rfl) ?_
  refine ga_iald hx hb hK hP (8 + d) 0 (XW_row (by omega)) rfl j (v := T1 d j) rfl (by omega) (by decide) dX0_reaches_18 ?_
  refine lv_iload_n hx hb dX0_reaches_19 rfl (lv_at hl 3 rfl) ?_
  refine lv_icmp_lt (tgt := 27) hx hb dX0_reaches_20 (by decide) (fun h20 => ?_) (fun h20 => ?_)
  · refine lv_iconst (v := 0) hx hb dX0_reaches_27 (by decide) ?_
    exact W.zret (v := 0) hx hb hr (by decide) (fun t ht hW => ⟨⟨0, (r1, T1), rfl, ⟨by rw [rea, ← hv1 d hr1 j hj, if_pos h20], hr18, hv1⟩, by rw [ht]; exact hP, va_K.moved hW.alike hK, hD⟩, hS.F ht⟩) hS.2.2 dX0_reaches_28
  · refine lv_iconst (v := 1) hx hb dX0_reaches_23 (by decide) ?_
    refine lv_goto (tgt := 28) hx hb dX0_reaches_24 (by decide) ?_
    exact W.zret (v := 1) hx hb hr (by decide) (fun t ht hW => ⟨⟨1, (r1, T1), rfl, ⟨by rw [rea, ← hv1 d hr1 j hj, if_neg h20], hr18, hv1⟩, by rw [ht]; exact hP, va_K.moved hW.alike hK, hD⟩, hS.F ht⟩) hS.2.2 dX0_reaches_28
set_option maxHeartbeats 4000000 in
set_option maxRecDepth 100000 in
/-- settled -/
theorem kX0_settled (l : Launch) (dC : Nat → ClassId) (dI : Nat → Nat → Nat) (cI cZ cA : ClassId) (a : Nat → Nat) (sz : Nat) (n : Nat) (am : Nat) (rf : Nat) (mk : Nat) (wv : Nat → Int32) (lo : Nat → Int32) (cf : Nat → Nat) (tf : Nat → Nat) (T : Nat → Nat → Int32) (mt : Nat → Nat) (im : Nat → Int32) (j d : Nat)  (hd : d < 8) (hG : Gok n wv lo cf tf) (hT : Tok n wv lo cf tf rf T) (hj : j < n)  : Met l yX0_settled wsX0_settled ({ frames := 7, cells := 0, slots := 0, locals := 112 }) (va_Pc [.ref (a 0), .int (nI j), .int (nI d)] (WP dC dI (GT cI cZ cA) (XW cI cZ cA a n am rf mk wv lo cf tf T mt im) sz)) (va_Qi (fun r (u : Nat × (Nat → Nat → Int32)) => r = nI (set_ (fun e => vv wv lo cf tf e j) (vv wv lo cf tf d j) d) ∧ Tok n wv lo cf tf u.1 u.2) (fun u => WQ dC dI (GT cI cZ cA) (va_A (XW cI cZ cA a n am rf mk wv lo cf tf T mt im) sz) (XW cI cZ cA a n am (u.1) mk wv lo cf tf (u.2) mt im)) (va_A (XW cI cZ cA a n am rf mk wv lo cf tf T mt im) sz)) 0 0 (va_A (XW cI cZ cA a n am rf mk wv lo cf tf T mt im) sz) := by
  refine Met.ofW (cc := cX0_settled) (maxL := 4) (ret := (some .int)) (by decide) rfl ?_
  intro p e s m args below meth c s₁ B hml hv
  obtain ⟨rfl, hsz, hP, hK, hD0⟩ := hv
  have hx := B.exec
  have hb := B.bytes
  have hr := B.returns
  have hts := atoms_spec (ws := wsX0_settled) B.pre
  have hown : s.vm.findClass RX0 = some m.cls := findClass_of_methodNamed B.named
  have hlocks := B.notSynchronized
  have hf_32 := hts (.fieldLink RX0 32 "GraphSearch" "table" "[[I") (by decide +kernel)
  have hiw : ∀ w ∈ wsX00, w ∈ wsX0_settled := by decide +kernel
  subst hsz
  have hD := hD0.self (sz := s.heap.size)
  generalize hAe : va_A (XW cI cZ cA a n am rf mk wv lo cf tf T mt im) s.heap.size = A at hD ⊢
  have hA : ∀ q : Nat, s.heap.size ≤ q → A q := fun q h => by rw [← hAe]; exact Or.inr h
  have hS : va_S A s.heap s.heap [] := va_S.rf
  have hP : va_P (dC, dI) vwCl (XW cI cZ cA a n am rf mk wv lo cf tf T mt im) s.heap := hP
  have hl := lv_entry ([.ref (a 0), .int (nI j), .int (nI d)]) (n := 4) (Nat.le_of_ble_eq_true rfl)
  rw [lg_entry_eq]
  generalize (lg_sl ([.ref (a 0), .int (nI j), .int (nI d)]) ++ List.replicate (4 - (lg_sl ([.ref (a 0), .int (nI j), .int (nI d)])).length) Slot.unset).toArray = ls at hl ⊢
  have hl : lv_has ls 4 [(0, .ref (a 0)), (1, .int (nI j)), (2, .int (nI d))] := hl
  obtain ⟨hn4, hwr, hc, htt, hlo, hz0⟩ := id hG
  obtain ⟨hr8, hrv⟩ := id hT
  have hcj := hc j hj
  refine lv_aload_n hx hb dX0_settled_0 rfl (lv_at hl 0 rfl) ?_
  refine lv_iload_n hx hb dX0_settled_1 rfl (lv_at hl 1 rfl) ?_
  refine lv_iload_n hx hb dX0_settled_2 rfl (lv_at hl 2 rfl) ?_
  refine va_csv (W.runV (As := [.int (nI j), .int (nI d)]) (rest := []) ⟨hx, hb, hml, hown, hts⟩ (kX0_refuse l dC dI cI cZ cA a n am rf mk wv lo cf tf T mt im j d hn4 hj hd) (cwV 2 hts gX0_settled_X0_refuseWrongQuestion rfl rfl rfl (by decide +kernel) ⟨Nat.le_of_ble_eq_true rfl, Nat.le_of_ble_eq_true rfl⟩) ⟨blindR, va_recv hK hP (ci := 0) (q0 := 0) rfl rfl, preR hP hK⟩ rfl rfl hl.1 rfl (lv_room (Nat.le_of_ble_eq_true rfl)) dX0_settled_3 ⟨Nat.zero_le _, Nat.zero_le _⟩) (fun _ => ?_)
  refine W.eq (g2 := F0 m 6 ls []) rfl ?_
  refine lv_aload_n hx hb dX0_settled_6 rfl (lv_at hl 0 rfl) ?_
  refine lv_iload_n hx hb dX0_settled_7 rfl (lv_at hl 2 rfl) ?_
  have hF := freeAll hD hS hA
  refine va_callv (va_runV (As := [.int (nI d)]) (rest := []) ⟨hx, hb, hml, hown, hts⟩ (kX0_deepenTo l dC dI cI cZ cA a s.heap.size n am rf mk wv lo cf tf T mt im d hd hG hr8 hrv) (cwV 1 hts gX0_settled_X0_deepenTo rfl rfl rfl (by decide +kernel) ⟨Nat.le_of_ble_eq_true rfl, Nat.le_of_ble_eq_true rfl⟩) ⟨blindW, va_recv hK hP (ci := 0) (q0 := 0) rfl rfl, preW hP hK hD⟩ rfl rfl hl.1 rfl (lv_room (Nat.le_of_ble_eq_true rfl)) dX0_settled_8 ⟨Nat.zero_le _, Nat.zero_le _⟩) hS (fun q _ h => hF q h) hF (fun u tS H1 locs htS hvm hw hB hz1 hk1 hS => ?_)
  obtain ⟨r1, T1⟩ := u
  obtain ⟨hr1, hr18, hv1⟩ : d < r1 ∧ r1 ≤ 8 ∧ ∀ e, e < r1 → ∀ x, x < n → T1 e x = vv wv lo cf tf e x := hw
  obtain ⟨hP1, hK1, hD1⟩ := hB
  rw [htS] at hP1
  have hP : va_P (dC, dI) vwCl (XW cI cZ cA a n am r1 mk wv lo cf tf T1 mt im) H1 := hP1
  have hD : va_D A (XW cI cZ cA a n am r1 mk wv lo cf tf T1 mt im) := hD1.weaken (fun _ _ _ h => hF _ h)
  generalize H1 = H at hP hS ⊢
  refine W.eq (g2 := F0 m 11 ls []) rfl ?_
  refine lv_iload_n hx hb dX0_settled_11 rfl (lv_at hl 2 rfl) ?_
  refine lv_istore_n (lv' := [(3, .int (nI d)), (0, .ref (a 0)), (1, .int (nI j)), (2, .int (nI d))]) hx hb dX0_settled_12 rfl hl (by decide) rfl (fun ls hl => ?_)
  have loop : ∀ k : Nat, k ≤ d → set_ (fun e => vv wv lo cf tf e j) (vv wv lo cf tf d j) k = set_ (fun e => vv wv lo cf tf e j) (vv wv lo cf tf d j) d → ∀ ls : Array Slot, lv_has ls 4 [(3, .int (nI k)), (0, .ref (a 0)), (1, .int (nI j)), (2, .int (nI d))] → W p l e (headSpec wsX0_settled (({ frames := 7, cells := 0, slots := 0, locals := 112 }) : Room)).room s m ([.ref (a 0), .int (nI j), .int (nI d)] : List Value).toArray below meth c H locs 0 0 (MQ below (va_Qi (fun r (u : Nat × (Nat → Nat → Int32)) => r = nI (set_ (fun e => vv wv lo cf tf e j) (vv wv lo cf tf d j) d) ∧ Tok n wv lo cf tf u.1 u.2) (fun u => WQ dC dI (GT cI cZ cA) A (XW cI cZ cA a n am (u.1) mk wv lo cf tf (u.2) mt im)) A) ([.ref (a 0), .int (nI j), .int (nI d)] : List Value).toArray s 0 0 A) (F0 m 13 ls []) := by
    intro k
    induction k with
    | zero =>
      intro hk he ls hl
      refine lv_iload_n hx hb dX0_settled_13 rfl (lv_at hl 0 rfl) ?_
      refine lv_if_le (tgt := 44) hx hb dX0_settled_14 (by decide) (fun h14 => ?_) (fun h14 => absurd (show nI 0 ≤ 0 from Int32.le_refl _) h14)
      refine lv_iload_n hx hb dX0_settled_44 rfl (lv_at hl 0 rfl) ?_
      exact W.iret (v := (nI 0)) hx hb hr (fun t ht hW => ⟨⟨(nI 0), (r1, T1), rfl, ⟨by rw [← he]; rfl, hr18, hv1⟩, by rw [ht]; exact hP, va_K.moved hW.alike hK, hD⟩, hS.F ht⟩) hS.2.2 dX0_settled_45
    | succ k ih =>
      intro hk he ls hl
      refine lv_iload_n hx hb dX0_settled_13 rfl (lv_at hl 0 rfl) ?_
      refine lv_if_le (tgt := 44) hx hb dX0_settled_14 (by decide) (fun h14 => absurd h14 (nI_nle (by omega) (by omega))) (fun h14 => ?_)
      refine lv_aload_n hx hb dX0_settled_17 rfl (lv_at hl 1 rfl) ?_
      refine va_get (D := (dC, dI)) (ci := 0) (v := .ref (a 5)) (C := RX0) (T := TX0) (N := 11) hx hb hts hiw hown hK hP 0 rfl rfl 6 (by decide) hf_32 (fun _ h9 => h9) rfl dX0_settled_18 ?_
      refine lv_iload_n hx hb dX0_settled_21 rfl (lv_at hl 0 rfl) ?_
      refine lv_iconst (v := 1) hx hb dX0_settled_22 (by decide) ?_
      refine lv_isub hx hb dX0_settled_23 ?_
      refine ga_is (y := nI k) (nI_pred k) ?_
      refine ga_aald hx hb hK hP 5 2 rfl rfl k (a (8 + k)) (if_pos (by omega)) (by omega) (by decide) dX0_settled_24 ?_
      refine lv_iload_n hx hb dX0_settled_25 rfl (lv_at hl 2 rfl) ?_
      refine ga_iald hx hb hK hP (8 + k) 0 (XW_row (by omega)) rfl j (v := T1 k j) rfl (by omega) (by decide) dX0_settled_26 ?_
      refine lv_aload_n hx hb dX0_settled_27 rfl (lv_at hl 1 rfl) ?_
      refine va_get (D := (dC, dI)) (ci := 0) (v := .ref (a 5)) (C := RX0) (T := TX0) (N := 11) hx hb hts hiw hown hK hP 0 rfl rfl 6 (by decide) hf_32 (fun _ h9 => h9) rfl dX0_settled_28 ?_
      refine lv_iload_n hx hb dX0_settled_31 rfl (lv_at hl 3 rfl) ?_
      refine ga_aald hx hb hK hP 5 2 rfl rfl d (a (8 + d)) (if_pos (by omega)) (by omega) (by decide) dX0_settled_32 ?_
      refine lv_iload_n hx hb dX0_settled_33 rfl (lv_at hl 2 rfl) ?_
      refine ga_iald hx hb hK hP (8 + d) 0 (XW_row (by omega)) rfl j (v := T1 d j) rfl (by omega) (by decide) dX0_settled_34 ?_
      refine lv_icmp_ne (tgt := 44) hx hb dX0_settled_35 (by decide) (fun h35 => ?_) (fun h35 => ?_)
      · refine lv_iload_n hx hb dX0_settled_44 rfl (lv_at hl 0 rfl) ?_
        exact W.iret (v := (nI (k + 1))) hx hb hr (fun t ht hW => ⟨⟨(nI (k + 1)), (r1, T1), rfl, ⟨by rw [← he, set_, if_neg (by rw [hv1 k (by omega) j hj, hv1 d hr1 j hj] at h35; exact h35)], hr18, hv1⟩, by rw [ht]; exact hP, va_K.moved hW.alike hK, hD⟩, hS.F ht⟩) hS.2.2 dX0_settled_45
      · refine lv_iinc (v := nI k) (lv' := [(3, .int (nI k)), (0, .ref (a 0)), (1, .int (nI j)), (2, .int (nI d))]) hx hb dX0_settled_38 hl (k := 0) rfl (pk_m1 k) (by decide) rfl (fun ls hl => ?_)
        refine lv_goto (tgt := 13) hx hb dX0_settled_41 (by decide) ?_
        exact ih (by omega) (by rw [← he, set_, if_pos (by rw [hv1 k (by omega) j hj, hv1 d hr1 j hj] at h35; exact h35)]) ls (lv_sub hl [0, 1, 2, 3] rfl)
  exact loop d (Nat.le_refl _) rfl ls (lv_sub hl [0, 1, 2, 3] rfl)
