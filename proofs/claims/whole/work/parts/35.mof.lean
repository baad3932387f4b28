theorem ofx_out {wv lo : Nat → Int32} {cf tf : Nat → Nat} {j : Nat} {v : Int32} (hc : cf j ≤ 6) (h : v < 0 ∨ 8 < v) : ofx wv lo cf tf j v = (-1) := by
  have e0 : (0 : Int32).toInt = 0 := by decide +kernel
  have e1 : (1 : Int32).toInt = 1 := by decide +kernel
  have e2 : (2 : Int32).toInt = 2 := by decide +kernel
  have e3 : (3 : Int32).toInt = 3 := by decide +kernel
  have e8 : (8 : Int32).toInt = 8 := by decide +kernel
  have hv : v.toInt < 0 ∨ 8 < v.toInt := by
    rcases h with h | h
    · rw [Int32.lt_iff_toInt_lt, e0] at h; exact Or.inl h
    · rw [Int32.lt_iff_toInt_lt, e8] at h; exact Or.inr h
  rw [ofx, if_neg (fun q => by rw [q] at hv; omega), if_neg (fun q => by rw [q] at hv; omega), if_neg (fun q => by rw [q] at hv; omega), ton]
  by_cases h3 : v < 3
  · rw [if_pos h3]
  · rw [if_neg h3, if_neg]
    intro q
    rw [Int32.lt_iff_toInt_lt, e3] at h3
    rw [Int32.lt_iff_toInt_lt, nI_toInt (by omega)] at q
    omega
theorem ofx_3 {wv lo : Nat → Int32} {cf tf : Nat → Nat} {j i : Nat} (hi : i < 100) (hc : cf j ≤ 6) : ofx wv lo cf tf j (nI (i + 3)) = if i < cf j then nI (tf (j * 6 + i)) else (-1) := by
  rw [ofx, if_neg (nI_ne0 (by omega) (by omega)), if_neg (fun q => by have := (nI_eq (b := 1) (by omega) (by decide)).mp q; omega), if_neg (fun q => by have := (nI_eq (b := 2) (by omega) (by decide)).mp q; omega)]
  by_cases h : i < cf j
  · rw [if_pos h, ton_at hc h]
  · rw [if_neg h, ton, show (3 : Int32) = nI 3 from rfl, if_neg (nI_nlt (by omega) (by omega)), if_neg (nI_nlt (by omega) (by omega))]
set_option maxHeartbeats 4000000 in
set_option maxRecDepth 100000 in
/-- of -/
theorem kX1_of (l : Launch) (dC : Nat → ClassId) (dI : Nat → Nat → Nat) (cI cZ cA : ClassId) (a : Nat → Nat) (sz : Nat) (th : Nat) (n : Nat) (wv : Nat → Int32) (lo : Nat → Int32) (cf : Nat → Nat) (tf : Nat → Nat) (vs : Nat → Int32) (nr : Nat → Nat) (x v : Int32) (hn4 : n ≤ 400) (hc : ∀ j, j < n → cf j ≤ 6) (hlo : ∀ j, lo j = 0 ∨ lo j = 1) : Met l yX1_of wsX1_of ({ frames := 1, cells := 0, slots := 0, locals := 21 }) (va_Pc [.ref (a 0), .int x, .int v] (WP dC dI (GT cI cZ cA) (MW cI cZ a th n wv lo cf tf vs nr) sz)) (va_Qi (fun r (_ : Unit) => r = off n wv lo cf tf x v) (fun (_ : Unit) => WQ dC dI (GT cI cZ cA) (va_A (MW cI cZ a th n wv lo cf tf vs nr) sz) (MW cI cZ a 0 n wv lo cf tf vs nr)) (va_A (MW cI cZ a th n wv lo cf tf vs nr) sz)) 0 0 (va_A (MW cI cZ a th n wv lo cf tf vs nr) sz) := by
  refine Met.ofW (cc := cX1_of) (maxL := 3) (ret := (some .int)) (by decide) rfl ?_
  intro p e s m args below meth c s₁ B hml hv
  obtain ⟨rfl, hsz, hP, hK, hD0⟩ := hv
  have hx := B.exec
  have hb := B.bytes
  have hr := B.returns
  have hts := atoms_spec (ws := wsX1_of) B.pre
  have hown : s.vm.findClass RX1 = some m.cls := findClass_of_methodNamed B.named
  have hlocks := B.notSynchronized
  have hf_29 := hts (.fieldLink RX1 29 "GraphSearchModel" "thrown" "I") (by decide +kernel)
  have hf_7 := hts (.fieldLink RX1 7 "GraphSearchModel" "worth" "[I") (by decide +kernel)
  have hf_13 := hts (.fieldLink RX1 13 "GraphSearchModel" "lost" "[Z") (by decide +kernel)
  have hf_17 := hts (.fieldLink RX1 17 "GraphSearchModel" "many" "[I") (by decide +kernel)
  have hf_20 := hts (.fieldLink RX1 20 "GraphSearchModel" "to" "[I") (by decide +kernel)
  have hiw : ∀ w ∈ wsX10, w ∈ wsX1_of := by decide +kernel
  subst hsz
  have hD := hD0.self (sz := s.heap.size)
  generalize hAe : va_A (MW cI cZ a th n wv lo cf tf vs nr) s.heap.size = A at hD ⊢
  have hA : ∀ q : Nat, s.heap.size ≤ q → A q := fun q h => by rw [← hAe]; exact Or.inr h
  have hS : va_S A s.heap s.heap [] := va_S.rf
  have hP : va_P (dC, dI) vwCl (MW cI cZ a th n wv lo cf tf vs nr) s.heap := hP
  have hl := lv_entry ([.ref (a 0), .int x, .int v]) (n := 3) (Nat.le_of_ble_eq_true rfl)
  rw [lg_entry_eq]
  generalize (lg_sl ([.ref (a 0), .int x, .int v]) ++ List.replicate (3 - (lg_sl ([.ref (a 0), .int x, .int v])).length) Slot.unset).toArray = ls at hl ⊢
  have hl : lv_has ls 3 [(0, .ref (a 0)), (1, .int x), (2, .int v)] := hl
  refine lv_aload_n hx hb dX1_of_0 rfl (lv_at hl 0 rfl) ?_
  refine lv_iconst (v := 0) hx hb dX1_of_1 (by decide) ?_
  refine ga_is (y := nI 0) (rfl) ?_
  refine va_put (D := (dC, dI)) (ci := 1) (v := .int (nI 0)) (ty := .int) (C := RX1) (T := TX1) (N := 8) hx hb hts hiw tyX1 tyX1_ok nmX1 hown hK hP hD hS 0 rfl rfl 0 (by decide) hf_29 (fun _ h9 => h9) rfl (by decide +kernel) rfl rfl (Nat.le_of_ble_eq_true rfl) dX1_of_2 (fun H locs hP hD hS => ?_)
  have hP : va_P (dC, dI) vwCl (MW cI cZ a 0 n wv lo cf tf vs nr) H := hP
  have hD : va_D A (MW cI cZ a 0 n wv lo cf tf vs nr) := hD
  refine lv_aload_n hx hb dX1_of_5 rfl (lv_at hl 0 rfl) ?_
  refine lv_iload_n hx hb dX1_of_6 rfl (lv_at hl 1 rfl) ?_
  refine W.callR (r := isn x n) (W.runV (As := [.int x]) (rest := []) ⟨hx, hb, hml, hown, hts⟩ (kX1_isNode l dC dI cI cZ cA a 0 n wv lo cf tf vs nr x) (cwV 1 hts gX1_of_X1_isNode rfl rfl rfl (by decide +kernel) ⟨Nat.le_of_ble_eq_true rfl, Nat.le_of_ble_eq_true rfl⟩) ⟨blindR, va_recv hK hP (ci := 1) (q0 := 0) rfl rfl, preR hP hK⟩ rfl rfl hl.1 rfl (lv_room (Nat.le_of_ble_eq_true rfl)) dX1_of_7 ⟨Nat.zero_le _, Nat.zero_le _⟩) ?_
  refine W.eq (g2 := F0 m 10 ls [.int (isn x n)]) rfl ?_
  refine lv_if_eq (tgt := 23) hx hb dX1_of_10 (by decide) (fun h10 => ?_) (fun h10 => ?_)
  · refine lv_iconst (v := (-1)) hx hb dX1_of_23 (by decide) ?_
    exact W.iret (v := (-1)) hx hb hr (fun t ht hW => ⟨⟨(-1), (), rfl, by rw [off, if_pos h10], by rw [ht]; exact hP, va_K.moved hW.alike hK, hD⟩, hS.F ht⟩) hS.2.2 dX1_of_24
  · rcases isn_in (x := x) (n := n) (by omega) with ⟨i1, j, hj, rfl⟩ | ⟨i0, -⟩
    · have ho : off n wv lo cf tf (nI j) v = ofx wv lo cf tf j v := by rw [off, if_neg (by rw [i1]; decide), nI_clamp (by omega)]
      have hcj := hc j hj
      refine lv_iload_n hx hb dX1_of_13 rfl (lv_at hl 2 rfl) ?_
      refine lv_if_lt (tgt := 23) hx hb dX1_of_14 (by decide) (fun h14 => ?_) (fun h14 => ?_)
      · refine lv_iconst (v := (-1)) hx hb dX1_of_23 (by decide) ?_
        exact W.iret (v := (-1)) hx hb hr (fun t ht hW => ⟨⟨(-1), (), rfl, by rw [ho, ofx_out hcj (Or.inl h14)], by rw [ht]; exact hP, va_K.moved hW.alike hK, hD⟩, hS.F ht⟩) hS.2.2 dX1_of_24
      · refine lv_iload_n hx hb dX1_of_17 rfl (lv_at hl 2 rfl) ?_
        refine lv_bipush (v := 8) hx hb dX1_of_18 (by decide) ?_
        refine lv_icmp_le (tgt := 25) hx hb dX1_of_20 (by decide) (fun h20 => ?_) (fun h20 => ?_)
        · refine lv_iload_n hx hb dX1_of_25 rfl (lv_at hl 2 rfl) ?_
          refine lv_iconst (v := 3) hx hb dX1_of_26 (by decide) ?_
          refine lv_icmp_ge (tgt := 72) hx hb dX1_of_27 (by decide) (fun h27 => ?_) (fun h27 => ?_)
          · obtain ⟨k, hk, rfl⟩ := nI_of2 (M := 8) (n := 8) (by decide +kernel) h14 h20
            have h3k : 3 ≤ k := by rcases Nat.lt_or_ge k 3 with z | z; exact absurd h27 (nI_ge z (by decide)); exact z
            obtain ⟨i, rfl⟩ : ∃ i, k = i + 3 := ⟨k - 3, by omega⟩
            rw [ofx_3 (by omega) hcj] at ho
            refine lv_iload_n hx hb dX1_of_72 rfl (lv_at hl 2 rfl) ?_
            refine lv_iconst (v := 3) hx hb dX1_of_73 (by decide) ?_
            refine lv_isub hx hb dX1_of_74 ?_
            refine ga_is (y := nI i) (by rw [show (3 : Int32) = nI 3 from rfl, pk_sub (by omega), Nat.add_sub_cancel]) ?_
            refine lv_aload_n hx hb dX1_of_75 rfl (lv_at hl 0 rfl) ?_
            refine va_get (D := (dC, dI)) (ci := 1) (v := .ref (a 3)) (C := RX1) (T := TX1) (N := 8) hx hb hts hiw hown hK hP 0 rfl rfl 4 (by decide) hf_17 (fun _ h9 => h9) rfl dX1_of_76 ?_
            refine lv_iload_n hx hb dX1_of_79 rfl (lv_at hl 1 rfl) ?_
            refine ga_iald hx hb hK hP 3 0 rfl rfl j (v := nI (cf j)) rfl (by omega) (by decide) dX1_of_80 ?_
            refine lv_icmp_ge (tgt := 100) hx hb dX1_of_81 (by decide) (fun h81 => ?_) (fun h81 => ?_)
            · have hn : ¬ i < cf j := fun z => absurd h81 (nI_ge z (by omega))
              refine lv_iconst (v := (-1)) hx hb dX1_of_100 (by decide) ?_
              exact W.iret (v := (-1)) hx hb hr (fun t ht hW => ⟨⟨(-1), (), rfl, by rw [ho, if_neg hn], by rw [ht]; exact hP, va_K.moved hW.alike hK, hD⟩, hS.F ht⟩) hS.2.2 dX1_of_101
            · have hn : i < cf j := by rcases Nat.lt_or_ge i (cf j) with z | z; exact z; exact absurd (nI_le z (by omega)) h81
              refine lv_aload_n hx hb dX1_of_84 rfl (lv_at hl 0 rfl) ?_
              refine va_get (D := (dC, dI)) (ci := 1) (v := .ref (a 4)) (C := RX1) (T := TX1) (N := 8) hx hb hts hiw hown hK hP 0 rfl rfl 5 (by decide) hf_20 (fun _ h9 => h9) rfl dX1_of_85 ?_
              refine lv_bipush (v := 6) hx hb dX1_of_88 (by decide) ?_
              refine lv_iload_n hx hb dX1_of_90 rfl (lv_at hl 1 rfl) ?_
              refine lv_imul hx hb dX1_of_91 ?_
              refine lv_iload_n hx hb dX1_of_92 rfl (lv_at hl 2 rfl) ?_
              refine lv_iadd hx hb dX1_of_93 ?_
              refine lv_iconst (v := 3) hx hb dX1_of_94 (by decide) ?_
              refine lv_isub hx hb dX1_of_95 ?_
              refine ga_is (y := nI (j * 6 + i)) (by rw [show (6 : Int32) = nI 6 from rfl, pk_mul, nI_add, show (3 : Int32) = nI 3 from rfl, pk_sub (by omega)]; congr 1; omega) ?_
              refine ga_iald hx hb hK hP 4 0 rfl rfl (j * 6 + i) (v := nI (tf (j * 6 + i))) rfl (by omega) (by decide) dX1_of_96 ?_
              refine lv_goto (tgt := 101) hx hb dX1_of_97 (by decide) ?_
              exact W.iret (v := (nI (tf (j * 6 + i)))) hx hb hr (fun t ht hW => ⟨⟨(nI (tf (j * 6 + i))), (), rfl, by rw [ho, if_pos hn], by rw [ht]; exact hP, va_K.moved hW.alike hK, hD⟩, hS.F ht⟩) hS.2.2 dX1_of_101
          · refine lv_iload_n hx hb dX1_of_30 rfl (lv_at hl 2 rfl) ?_
            refine lv_if_ne (tgt := 43) hx hb dX1_of_31 (by decide) (fun h31 => ?_) (fun h31 => ?_)
            · refine lv_iload_n hx hb dX1_of_43 rfl (lv_at hl 2 rfl) ?_
              refine lv_iconst (v := 1) hx hb dX1_of_44 (by decide) ?_
              refine lv_icmp_ne (tgt := 65) hx hb dX1_of_45 (by decide) (fun h45 => ?_) (fun h45 => ?_)
              · have hv2 : v = 2 := by
                  rcases of_sw v with z | z | z | ⟨-, -, -, z | z⟩
                  · exact absurd z h31
                  · exact absurd z h45
                  · exact z
                  · exact absurd (by rw [Int32.lt_iff_toInt_lt]; exact z) h14
                  · refine absurd ?_ h27
                    rw [Int32.le_iff_toInt_le, show (3 : Int32).toInt = 3 by decide +kernel]
                    omega
                refine lv_aload_n hx hb dX1_of_65 rfl (lv_at hl 0 rfl) ?_
                refine va_get (D := (dC, dI)) (ci := 1) (v := .ref (a 3)) (C := RX1) (T := TX1) (N := 8) hx hb hts hiw hown hK hP 0 rfl rfl 4 (by decide) hf_17 (fun _ h9 => h9) rfl dX1_of_66 ?_
                refine lv_iload_n hx hb dX1_of_69 rfl (lv_at hl 1 rfl) ?_
                refine ga_iald hx hb hK hP 3 0 rfl rfl j (v := nI (cf j)) rfl (by omega) (by decide) dX1_of_70 ?_
                exact W.iret (v := (nI (cf j))) hx hb hr (fun t ht hW => ⟨⟨(nI (cf j)), (), rfl, by rw [ho, ofx, if_neg h31, if_neg h45, if_pos hv2], by rw [ht]; exact hP, va_K.moved hW.alike hK, hD⟩, hS.F ht⟩) hS.2.2 dX1_of_71
              · refine lv_aload_n hx hb dX1_of_48 rfl (lv_at hl 0 rfl) ?_
                refine va_get (D := (dC, dI)) (ci := 1) (v := .ref (a 2)) (C := RX1) (T := TX1) (N := 8) hx hb hts hiw hown hK hP 0 rfl rfl 3 (by decide) hf_13 (fun _ h9 => h9) rfl dX1_of_49 ?_
                refine lv_iload_n hx hb dX1_of_52 rfl (lv_at hl 1 rfl) ?_
                refine ga_zald hx hb hK hP 2 1 rfl rfl j (v := lo j) rfl (by omega) (by decide) dX1_of_53 ?_
                refine lv_if_eq (tgt := 61) hx hb dX1_of_54 (by decide) (fun h54 => ?_) (fun h54 => ?_)
                · refine lv_iconst (v := 0) hx hb dX1_of_61 (by decide) ?_
                  refine lv_goto (tgt := 71) hx hb dX1_of_62 (by decide) ?_
                  exact W.iret (v := 0) hx hb hr (fun t ht hW => ⟨⟨0, (), rfl, by rw [ho, ofx, if_neg h31, if_pos h45, h54], by rw [ht]; exact hP, va_K.moved hW.alike hK, hD⟩, hS.F ht⟩) hS.2.2 dX1_of_71
                · refine lv_iconst (v := 1) hx hb dX1_of_57 (by decide) ?_
                  refine lv_goto (tgt := 71) hx hb dX1_of_58 (by decide) ?_
                  exact W.iret (v := 1) hx hb hr (fun t ht hW => ⟨⟨1, (), rfl, by rw [ho, ofx, if_neg h31, if_pos h45, (hlo j).resolve_left h54], by rw [ht]; exact hP, va_K.moved hW.alike hK, hD⟩, hS.F ht⟩) hS.2.2 dX1_of_71
            · refine lv_aload_n hx hb dX1_of_34 rfl (lv_at hl 0 rfl) ?_
              refine va_get (D := (dC, dI)) (ci := 1) (v := .ref (a 1)) (C := RX1) (T := TX1) (N := 8) hx hb hts hiw hown hK hP 0 rfl rfl 2 (by decide) hf_7 (fun _ h9 => h9) rfl dX1_of_35 ?_
              refine lv_iload_n hx hb dX1_of_38 rfl (lv_at hl 1 rfl) ?_
              refine ga_iald hx hb hK hP 1 0 rfl rfl j (v := wv j) rfl (by omega) (by decide) dX1_of_39 ?_
              refine lv_goto (tgt := 71) hx hb dX1_of_40 (by decide) ?_
              exact W.iret (v := (wv j)) hx hb hr (fun t ht hW => ⟨⟨(wv j), (), rfl, by rw [ho, ofx, if_pos h31], by rw [ht]; exact hP, va_K.moved hW.alike hK, hD⟩, hS.F ht⟩) hS.2.2 dX1_of_71
        · refine lv_iconst (v := (-1)) hx hb dX1_of_23 (by decide) ?_
          exact W.iret (v := (-1)) hx hb hr (fun t ht hW => ⟨⟨(-1), (), rfl, by rw [ho, ofx_out hcj (Or.inr (i32_nle h20))], by rw [ht]; exact hP, va_K.moved hW.alike hK, hD⟩, hS.F ht⟩) hS.2.2 dX1_of_24
    · exact absurd i0 h10
