/-- how many k below n are of a kind -/
noncomputable def cntP (P : Nat → Prop) : Nat → Nat
  | 0 => 0
  | k + 1 => cntP P k + @ite Nat (P k) (Classical.propDecidable _) 1 0
theorem cntP_congr {P Q : Nat → Prop} : ∀ n : Nat, (∀ k, k < n → (P k ↔ Q k)) → cntP P n = cntP Q n
  | 0, _ => rfl
  | n + 1, h => by
    show cntP P n + @ite Nat (P n) (Classical.propDecidable _) 1 0 = cntP Q n + @ite Nat (Q n) (Classical.propDecidable _) 1 0
    rw [cntP_congr n (fun k hk => h k (Nat.lt_succ_of_lt hk))]
    have hn := h n (Nat.lt_succ_self n)
    by_cases hp : P n
    · rw [if_pos hp, if_pos (hn.mp hp)]
    · rw [if_neg hp, if_neg (fun z => hp (hn.mpr z))]
theorem cntP_le {P : Nat → Prop} : ∀ n : Nat, cntP P n ≤ n
  | 0 => Nat.le_refl _
  | n + 1 => by
    show cntP P n + @ite Nat (P n) (Classical.propDecidable _) 1 0 ≤ n + 1
    have := cntP_le (P := P) n
    by_cases hp : P n
    · rw [if_pos hp]; omega
    · rw [if_neg hp]; omega
theorem cntP_0 {P : Nat → Prop} : ∀ n : Nat, (∀ k, k < n → ¬ P k) → cntP P n = 0
  | 0, _ => rfl
  | n + 1, h => by
    show cntP P n + @ite Nat (P n) (Classical.propDecidable _) 1 0 = 0
    rw [cntP_0 n (fun k hk => h k (Nat.lt_succ_of_lt hk)), if_neg (h n (Nat.lt_succ_self n))]
theorem cntP_add {P Q : Nat → Prop} {y : Nat} (hy : ¬ P y) (hQ : ∀ z, Q z ↔ P z ∨ z = y) : ∀ n : Nat, y < n → cntP Q n = cntP P n + 1
  | 0, h => absurd h (by omega)
  | n + 1, h => by
    show cntP Q n + @ite Nat (Q n) (Classical.propDecidable _) 1 0 = cntP P n + @ite Nat (P n) (Classical.propDecidable _) 1 0 + 1
    by_cases e : n = y
    · subst e
      rw [if_neg hy, if_pos ((hQ n).mpr (Or.inr rfl)), cntP_congr (P := Q) (Q := P) n (fun k hk => ⟨fun q => ((hQ k).mp q).resolve_right (by omega), fun q => (hQ k).mpr (Or.inl q)⟩)]
    · rw [cntP_add hy hQ n (by omega)]
      by_cases hp : P n
      · rw [if_pos hp, if_pos ((hQ n).mpr (Or.inl hp))]
      · rw [if_neg hp, if_neg (fun q => ((hQ n).mp q).elim hp e)]
theorem cntP_lt {P : Nat → Prop} {y n : Nat} (hy : ¬ P y) (h : y < n) : cntP P n < n := by
  have h1 := cntP_add (P := P) (Q := fun z => P z ∨ z = y) hy (fun z => Iff.rfl) n h
  have h2 := cntP_le (P := fun z => P z ∨ z = y) n
  omega
/-- the nodes that can be come to by at most so many moves -/
def rch (cf tf : Nat → Nat) (x : Nat) : Nat → Nat → Prop
  | 0, y => y = x
  | d + 1, y => rch cf tf x d y ∨ ∃ z, rch cf tf x d z ∧ ∃ j, j < cf z ∧ tf (z * 6 + j) = y
/-- between two calls of around -/
def Mkeep (mk : Nat) (mt : Nat → Nat) (im : Nat → Int32) : Prop := mk ≤ 400 ∧ (∀ i, i < mk → mt i < 400) ∧ ∀ y, im y = 0 ∨ ∃ i, i < mk ∧ mt i = y
/-- within a call of around -/
def Mrun (n mk : Nat) (mt : Nat → Nat) (im : Nat → Int32) : Prop := (∀ y, im y = 0 ∨ im y = 1) ∧ mk = cntP (fun y => im y = 1) n ∧ (∀ i, i < mk → mt i < n ∧ im (mt i) = 1) ∧ ∀ y, im y = 1 → ∃ i, i < mk ∧ mt i = y
theorem Mrun.keep {n mk : Nat} {mt : Nat → Nat} {im : Nat → Int32} (hn : n ≤ 400) (h : Mrun n mk mt im) : Mkeep mk mt im := by
  obtain ⟨h1, h2, h3, h4⟩ := h
  have := cntP_le (P := fun y => im y = 1) n
  refine ⟨by omega, fun i hi => by have := (h3 i hi).1; omega, fun y => ?_⟩
  rcases h1 y with h | h
  · exact Or.inl h
  · exact Or.inr (h4 y h)
theorem upd_s {f : Nat → Int32} {k : Nat} {x : Int32} : upd f k x k = x := if_pos rfl
theorem upd_n {f : Nat → Int32} {k j : Nat} {x : Int32} (h : j ≠ k) : upd f k x j = f j := if_neg h
theorem Mrun.meet {n mk y : Nat} {mt : Nat → Nat} {im : Nat → Int32} (h : Mrun n mk mt im) (hy : y < n) (h0 : im y = 0) : Mrun n (mk + 1) (va_up mt mk y) (upd im y 1) := by
  obtain ⟨h1, h2, h3, h4⟩ := h
  have hne : ∀ i, i < mk → mt i ≠ y := fun i hi e => by
    have := (h3 i hi).2
    rw [e, h0] at this
    exact absurd this (by decide)
  refine ⟨fun z => ?_, ?_, fun i hi => ?_, fun z hz => ?_⟩
  · by_cases e : z = y
    · rw [e, upd_s]; exact Or.inr rfl
    · rw [upd_n e]; exact h1 z
  · rw [h2]
    refine (cntP_add (y := y) (fun q => ?_) (fun z => ?_) n hy).symm
    · have q1 : im y = 1 := q
      rw [h0] at q1
      exact absurd q1 (by decide)
    · by_cases e : z = y
      · rw [e, upd_s]; exact ⟨fun _ => Or.inr rfl, fun _ => rfl⟩
      · rw [upd_n e]; exact ⟨fun q => Or.inl q, fun q => q.resolve_right e⟩
  · by_cases e : i = mk
    · rw [e, va_up_self, upd_s]; exact ⟨hy, rfl⟩
    · rw [va_up_ne _ _ e, upd_n (hne i (by omega))]; exact h3 i (by omega)
  · by_cases e : z = y
    · exact ⟨mk, by omega, by rw [va_up_self, e]⟩
    · rw [upd_n e] at hz
      obtain ⟨i, hi, e2⟩ := h4 z hz
      exact ⟨i, by omega, by rw [va_up_ne _ _ (by omega)]; exact e2⟩
set_option maxHeartbeats 4000000 in
set_option maxRecDepth 100000 in
/-- forgetMet -/
theorem kX0_forgetMet (l : Launch) (dC : Nat → ClassId) (dI : Nat → Nat → Nat) (cI cZ cA : ClassId) (a : Nat → Nat) (sz : Nat) (n : Nat) (am : Nat) (rf : Nat) (mk : Nat) (wv : Nat → Int32) (lo : Nat → Int32) (cf : Nat → Nat) (tf : Nat → Nat) (T : Nat → Nat → Int32) (mt : Nat → Nat) (im : Nat → Int32)  (hM : Mkeep mk mt im) : Met l yX0_forgetMet wsX0_forgetMet ({ frames := 0, cells := 0, slots := 0, locals := 0 }) (va_Pc [.ref (a 0)] (WP dC dI (GT cI cZ cA) (XW cI cZ cA a n am rf mk wv lo cf tf T mt im) sz)) (va_Qv (fun im1 : Nat → Int32 => ∀ y, im1 y = 0) (fun im1 => WQ dC dI (GT cI cZ cA) (va_A (XW cI cZ cA a n am rf mk wv lo cf tf T mt im) sz) (XW cI cZ cA a n am rf 0 wv lo cf tf T mt im1)) (va_A (XW cI cZ cA a n am rf mk wv lo cf tf T mt im) sz)) 0 0 (va_A (XW cI cZ cA a n am rf mk wv lo cf tf T mt im) sz) := by
  refine Met.ofW (cc := cX0_forgetMet) (maxL := 2) (ret := none) (by decide) rfl ?_
  intro p e s m args below meth c s₁ B hml hv
  obtain ⟨rfl, hsz, hP, hK, hD0⟩ := hv
  have hx := B.exec
  have hb := B.bytes
  have hr := B.returns
  have hts := atoms_spec (ws := wsX0_forgetMet) B.pre
  have hown : s.vm.findClass RX0 = some m.cls := findClass_of_methodNamed B.named
  have hlocks := B.notSynchronized
  have hf_44 := hts (.fieldLink RX0 44 "GraphSearch" "metCount" "I") (by decide +kernel)
  have hf_41 := hts (.fieldLink RX0 41 "GraphSearch" "isMet" "[Z") (by decide +kernel)
  have hf_38 := hts (.fieldLink RX0 38 "GraphSearch" "met" "[I") (by decide +kernel)
  have hiw : ∀ w ∈ wsX00, w ∈ wsX0_forgetMet := by decide +kernel
  subst hsz
  have hD := hD0.self (sz := s.heap.size)
  generalize hAe : va_A (XW cI cZ cA a n am rf mk wv lo cf tf T mt im) s.heap.size = A at hD ⊢
  have hA : ∀ q : Nat, s.heap.size ≤ q → A q := fun q h => by rw [← hAe]; exact Or.inr h
  have hS : va_S A s.heap s.heap [] := va_S.rf
  have hP : va_P (dC, dI) vwCl (XW cI cZ cA a n am rf mk wv lo cf tf T mt im) s.heap := hP
  have hl := lv_entry ([.ref (a 0)]) (n := 2) (Nat.le_of_ble_eq_true rfl)
  rw [lg_entry_eq]
  generalize (lg_sl ([.ref (a 0)]) ++ List.replicate (2 - (lg_sl ([.ref (a 0)])).length) Slot.unset).toArray = ls at hl ⊢
  have hl : lv_has ls 2 [(0, .ref (a 0))] := hl
  obtain ⟨hm4, hm, hmy⟩ := hM
  refine lv_iconst (v := 0) hx hb dX0_forgetMet_0 (by decide) ?_
  refine ga_is (y := nI 0) (rfl) ?_
  refine lv_istore_n (lv' := [(1, .int (nI 0)), (0, .ref (a 0))]) hx hb dX0_forgetMet_1 rfl hl (by decide) rfl (fun ls hl => ?_)
  have loop : ∀ (k j : Nat), j + k = mk → ∀ im1 : Nat → Int32, (∀ y, im1 y = 0 ∨ ∃ i, j ≤ i ∧ i < mk ∧ mt i = y) → ∀ (H : Heap) (locs : List Loc), va_P (dC, dI) vwCl (XW cI cZ cA a n am rf mk wv lo cf tf T mt im1) H → va_D A (XW cI cZ cA a n am rf mk wv lo cf tf T mt im1) → va_S A s.heap H locs → ∀ ls : Array Slot, lv_has ls 2 [(1, .int (nI j)), (0, .ref (a 0))] → W p l e (headSpec wsX0_forgetMet (({ frames := 0, cells := 0, slots := 0, locals := 0 }) : Room)).room s m ([.ref (a 0)] : List Value).toArray below meth c H locs 0 0 (MQ below (va_Qv (fun im1 : Nat → Int32 => ∀ y, im1 y = 0) (fun im1 => WQ dC dI (GT cI cZ cA) A (XW cI cZ cA a n am rf 0 wv lo cf tf T mt im1)) A) ([.ref (a 0)] : List Value).toArray s 0 0 A) (F0 m 2 ls []) := by
    intro k
    induction k with
    | zero =>
      intro j hj im1 h1 H locs hP hD hS ls hl
      obtain rfl : j = mk := by omega
      refine lv_iload_n hx hb dX0_forgetMet_2 rfl (lv_at hl 0 rfl) ?_
      refine lv_aload_n hx hb dX0_forgetMet_3 rfl (lv_at hl 1 rfl) ?_
      refine va_get (D := (dC, dI)) (ci := 0) (v := .int (nI j)) (C := RX0) (T := TX0) (N := 11) hx hb hts hiw hown hK hP 0 rfl rfl 10 (by decide) hf_44 (fun _ h9 => h9) rfl dX0_forgetMet_4 ?_
      refine lv_icmp_ge (tgt := 28) hx hb dX0_forgetMet_7 (by decide) (fun h7 => ?_) (fun h7 => absurd (Int32.le_refl _) h7)
      refine lv_aload_n hx hb dX0_forgetMet_28 rfl (lv_at hl 1 rfl) ?_
      refine lv_iconst (v := 0) hx hb dX0_forgetMet_29 (by decide) ?_
      refine ga_is (y := nI 0) (rfl) ?_
      refine va_put (D := (dC, dI)) (ci := 0) (v := .int (nI 0)) (ty := .int) (C := RX0) (T := TX0) (N := 11) hx hb hts hiw tyX0 tyX0_ok nmX0 hown hK hP hD hS 0 rfl rfl 10 (by decide) hf_44 (fun _ h9 => h9) rfl (by decide +kernel) rfl rfl (Nat.le_of_ble_eq_true rfl) dX0_forgetMet_30 (fun H locs hP hD hS => ?_)
      have hP : va_P (dC, dI) vwCl (XW cI cZ cA a n am rf 0 wv lo cf tf T mt im1) H := hP
      have hD : va_D A (XW cI cZ cA a n am rf 0 wv lo cf tf T mt im1) := hD
      exact W.vret hx hb hr (fun t ht hW => ⟨⟨im1, rfl, fun y => (h1 y).resolve_right (fun ⟨i, a1, a2, _⟩ => absurd a1 (by omega)), by rw [ht]; exact hP, va_K.moved hW.alike hK, hD⟩, hS.F ht⟩) hS.2.2 dX0_forgetMet_33
    | succ k ih =>
      intro j hj im1 h1 H locs hP hD hS ls hl
      have hmj := hm j (by omega)
      refine lv_iload_n hx hb dX0_forgetMet_2 rfl (lv_at hl 0 rfl) ?_
      refine lv_aload_n hx hb dX0_forgetMet_3 rfl (lv_at hl 1 rfl) ?_
      refine va_get (D := (dC, dI)) (ci := 0) (v := .int (nI mk)) (C := RX0) (T := TX0) (N := 11) hx hb hts hiw hown hK hP 0 rfl rfl 10 (by decide) hf_44 (fun _ h9 => h9) rfl dX0_forgetMet_4 ?_
      refine lv_icmp_ge (tgt := 28) hx hb dX0_forgetMet_7 (by decide) (fun h7 => absurd h7 (nI_ge (by omega) (by omega))) (fun h7 => ?_)
      refine lv_aload_n hx hb dX0_forgetMet_10 rfl (lv_at hl 1 rfl) ?_
      refine va_get (D := (dC, dI)) (ci := 0) (v := .ref (a 7)) (C := RX0) (T := TX0) (N := 11) hx hb hts hiw hown hK hP 0 rfl rfl 9 (by decide) hf_41 (fun _ h9 => h9) rfl dX0_forgetMet_11 ?_
      refine lv_aload_n hx hb dX0_forgetMet_14 rfl (lv_at hl 1 rfl) ?_
      refine va_get (D := (dC, dI)) (ci := 0) (v := .ref (a 6)) (C := RX0) (T := TX0) (N := 11) hx hb hts hiw hown hK hP 0 rfl rfl 8 (by decide) hf_38 (fun _ h9 => h9) rfl dX0_forgetMet_15 ?_
      refine lv_iload_n hx hb dX0_forgetMet_18 rfl (lv_at hl 0 rfl) ?_
      refine ga_iald hx hb hK hP 6 0 rfl rfl j (v := nI (mt j)) rfl (by omega) (by decide) dX0_forgetMet_19 ?_
      refine lv_iconst (v := 0) hx hb dX0_forgetMet_20 (by decide) ?_
      refine ga_zast hx hb hK hP hD hS 7 1 rfl rfl (mt j) (Or.inl rfl) (by omega) (by decide) rfl (ws' := XW cI cZ cA a n am rf mk wv lo cf tf T mt (upd im1 (mt j) 0)) rfl dX0_forgetMet_21 (fun H locs hP hD hS => ?_)
      refine lv_iinc (v := nI (j + 1)) (lv' := [(1, .int (nI (j + 1))), (0, .ref (a 0))]) hx hb dX0_forgetMet_22 hl (k := 0) rfl (nI_1 j) (by decide) rfl (fun ls hl => ?_)
      refine lv_goto (tgt := 2) hx hb dX0_forgetMet_25 (by decide) ?_
      refine ih (j + 1) (by omega) _ (fun y => ?_) H locs hP hD hS ls (lv_sub hl [0, 1] rfl)
      by_cases e : y = mt j
      · rw [e, upd_s]; exact Or.inl rfl
      · rw [upd_n e]
        rcases h1 y with q | ⟨i, b1, b2, b3⟩
        · exact Or.inl q
        · refine Or.inr ⟨i, ?_, b2, b3⟩
          have : i ≠ j := fun q => e (by rw [← b3, q])
          omega
  refine loop mk 0 (by omega) im (fun y => ?_) s.heap [] hP hD hS ls (lv_sub hl [0, 1] rfl)
  rcases hmy y with q | ⟨i, b2, b3⟩
  · exact Or.inl q
  · exact Or.inr ⟨i, Nat.zero_le _, b2, b3⟩
set_option maxHeartbeats 4000000 in
set_option maxRecDepth 100000 in
/-- meet -/
theorem kX0_meet (l : Launch) (dC : Nat → ClassId) (dI : Nat → Nat → Nat) (cI cZ cA : ClassId) (a : Nat → Nat) (sz : Nat) (n : Nat) (am : Nat) (rf : Nat) (mk : Nat) (wv : Nat → Int32) (lo : Nat → Int32) (cf : Nat → Nat) (tf : Nat → Nat) (T : Nat → Nat → Int32) (mt : Nat → Nat) (im : Nat → Int32) (y : Nat) (hn4 : n ≤ 400) (hy : y < n) (hM : Mrun n mk mt im) : Met l yX0_meet wsX0_meet ({ frames := 0, cells := 0, slots := 0, locals := 0 }) (va_Pc [.ref (a 0), .int (nI y)] (WP dC dI (GT cI cZ cA) (XW cI cZ cA a n am rf mk wv lo cf tf T mt im) sz)) (va_Qv (fun u : Nat × (Nat → Nat) × (Nat → Int32) => Mrun n u.1 u.2.1 u.2.2 ∧ mk ≤ u.1 ∧ (∀ i, i < mk → u.2.1 i = mt i) ∧ ∀ z, u.2.2 z = 1 ↔ im z = 1 ∨ z = y) (fun u => WQ dC dI (GT cI cZ cA) (va_A (XW cI cZ cA a n am rf mk wv lo cf tf T mt im) sz) (XW cI cZ cA a n am rf (u.1) wv lo cf tf T (u.2.1) (u.2.2))) (va_A (XW cI cZ cA a n am rf mk wv lo cf tf T mt im) sz)) 0 0 (va_A (XW cI cZ cA a n am rf mk wv lo cf tf T mt im) sz) := by
  refine Met.ofW (cc := cX0_meet) (maxL := 2) (ret := none) (by decide) rfl ?_
  intro p e s m args below meth c s₁ B hml hv
  obtain ⟨rfl, hsz, hP, hK, hD0⟩ := hv
  have hx := B.exec
  have hb := B.bytes
  have hr := B.returns
  have hts := atoms_spec (ws := wsX0_meet) B.pre
  have hown : s.vm.findClass RX0 = some m.cls := findClass_of_methodNamed B.named
  have hlocks := B.notSynchronized
  have hf_41 := hts (.fieldLink RX0 41 "GraphSearch" "isMet" "[Z") (by decide +kernel)
  have hf_38 := hts (.fieldLink RX0 38 "GraphSearch" "met" "[I") (by decide +kernel)
  have hf_44 := hts (.fieldLink RX0 44 "GraphSearch" "metCount" "I") (by decide +kernel)
  have hiw : ∀ w ∈ wsX00, w ∈ wsX0_meet := by decide +kernel
  subst hsz
  have hD := hD0.self (sz := s.heap.size)
  generalize hAe : va_A (XW cI cZ cA a n am rf mk wv lo cf tf T mt im) s.heap.size = A at hD ⊢
  have hA : ∀ q : Nat, s.heap.size ≤ q → A q := fun q h => by rw [← hAe]; exact Or.inr h
  have hS : va_S A s.heap s.heap [] := va_S.rf
  have hP : va_P (dC, dI) vwCl (XW cI cZ cA a n am rf mk wv lo cf tf T mt im) s.heap := hP
  have hl := lv_entry ([.ref (a 0), .int (nI y)]) (n := 2) (Nat.le_of_ble_eq_true rfl)
  rw [lg_entry_eq]
  generalize (lg_sl ([.ref (a 0), .int (nI y)]) ++ List.replicate (2 - (lg_sl ([.ref (a 0), .int (nI y)])).length) Slot.unset).toArray = ls at hl ⊢
  have hl : lv_has ls 2 [(0, .ref (a 0)), (1, .int (nI y))] := hl
  refine lv_aload_n hx hb dX0_meet_0 rfl (lv_at hl 0 rfl) ?_
  refine va_get (D := (dC, dI)) (ci := 0) (v := .ref (a 7)) (C := RX0) (T := TX0) (N := 11) hx hb hts hiw hown hK hP 0 rfl rfl 9 (by decide) hf_41 (fun _ h9 => h9) rfl dX0_meet_1 ?_
  refine lv_iload_n hx hb dX0_meet_4 rfl (lv_at hl 1 rfl) ?_
  refine ga_zald hx hb hK hP 7 1 rfl rfl y (v := im y) rfl (by omega) (by decide) dX0_meet_5 ?_
  refine lv_if_ne (tgt := 36) hx hb dX0_meet_6 (by decide) (fun h6 => ?_) (fun h6 => ?_)
  · have hy1 := (hM.1 y).resolve_left h6
    exact W.vret hx hb hr (fun t ht hW => ⟨⟨(mk, mt, im), rfl, ⟨hM, Nat.le_refl _, fun _ _ => rfl, fun z => ⟨fun q => Or.inl q, fun q => q.elim id (fun e => by rw [e]; exact hy1)⟩⟩, by rw [ht]; exact hP, va_K.moved hW.alike hK, hD⟩, hS.F ht⟩) hS.2.2 dX0_meet_36
  · have hmk : mk < n := by rw [hM.2.1]; exact cntP_lt (y := y) (fun q => absurd (h6.symm.trans q) (by decide)) hy
    refine lv_aload_n hx hb dX0_meet_9 rfl (lv_at hl 0 rfl) ?_
    refine va_get (D := (dC, dI)) (ci := 0) (v := .ref (a 7)) (C := RX0) (T := TX0) (N := 11) hx hb hts hiw hown hK hP 0 rfl rfl 9 (by decide) hf_41 (fun _ h9 => h9) rfl dX0_meet_10 ?_
    refine lv_iload_n hx hb dX0_meet_13 rfl (lv_at hl 1 rfl) ?_
    refine lv_iconst (v := 1) hx hb dX0_meet_14 (by decide) ?_
    refine ga_zast hx hb hK hP hD hS 7 1 rfl rfl y (Or.inr rfl) (by omega) (by decide) rfl (ws' := XW cI cZ cA a n am rf mk wv lo cf tf T mt (upd im y 1)) rfl dX0_meet_15 (fun H locs hP hD hS => ?_)
    refine lv_aload_n hx hb dX0_meet_16 rfl (lv_at hl 0 rfl) ?_
    refine va_get (D := (dC, dI)) (ci := 0) (v := .ref (a 6)) (C := RX0) (T := TX0) (N := 11) hx hb hts hiw hown hK hP 0 rfl rfl 8 (by decide) hf_38 (fun _ h9 => h9) rfl dX0_meet_17 ?_
    refine lv_aload_n hx hb dX0_meet_20 rfl (lv_at hl 0 rfl) ?_
    refine va_get (D := (dC, dI)) (ci := 0) (v := .int (nI mk)) (C := RX0) (T := TX0) (N := 11) hx hb hts hiw hown hK hP 0 rfl rfl 10 (by decide) hf_44 (fun _ h9 => h9) rfl dX0_meet_21 ?_
    refine lv_iload_n hx hb dX0_meet_24 rfl (lv_at hl 1 rfl) ?_
    refine ga_iast hx hb hK hP hD hS 6 0 rfl rfl mk (by omega) (by decide) (upd_nI _ _ y) (ws' := XW cI cZ cA a n am rf mk wv lo cf tf T (va_up mt mk y) (upd im y 1)) rfl dX0_meet_25 (fun H locs hP hD hS => ?_)
    refine lv_aload_n hx hb dX0_meet_26 rfl (lv_at hl 0 rfl) ?_
    refine lv_dup hx hb dX0_meet_27 rfl ?_
    refine va_get (D := (dC, dI)) (ci := 0) (v := .int (nI mk)) (C := RX0) (T := TX0) (N := 11) hx hb hts hiw hown hK hP 0 rfl rfl 10 (by decide) hf_44 (fun _ h9 => h9) rfl dX0_meet_28 ?_
    refine lv_iconst (v := 1) hx hb dX0_meet_31 (by decide) ?_
    refine lv_iadd hx hb dX0_meet_32 ?_
    refine ga_is (y := nI (mk + 1)) (nI_1 mk) ?_
    refine va_put (D := (dC, dI)) (ci := 0) (v := .int (nI (mk + 1))) (ty := .int) (C := RX0) (T := TX0) (N := 11) hx hb hts hiw tyX0 tyX0_ok nmX0 hown hK hP hD hS 0 rfl rfl 10 (by decide) hf_44 (fun _ h9 => h9) rfl (by decide +kernel) rfl rfl (Nat.le_of_ble_eq_true rfl) dX0_meet_33 (fun H locs hP hD hS => ?_)
    have hP : va_P (dC, dI) vwCl (XW cI cZ cA a n am rf (mk + 1) wv lo cf tf T (va_up mt mk y) (upd im y 1)) H := hP
    have hD : va_D A (XW cI cZ cA a n am rf (mk + 1) wv lo cf tf T (va_up mt mk y) (upd im y 1)) := hD
    exact W.vret hx hb hr (fun t ht hW => ⟨⟨(mk + 1, va_up mt mk y, upd im y 1), rfl, ⟨hM.meet hy h6, Nat.le_succ _, fun i hi => va_up_ne _ _ (by omega), fun z => by
        show upd im y 1 z = 1 ↔ _
        by_cases e : z = y
        · rw [e, upd_s]; exact ⟨fun _ => Or.inr rfl, fun _ => rfl⟩
        · rw [upd_n e]; exact ⟨fun q => Or.inl q, fun q => q.resolve_right e⟩⟩, by rw [ht]; exact hP, va_K.moved hW.alike hK, hD⟩, hS.F ht⟩) hS.2.2 dX0_meet_36
