set_option maxHeartbeats 4000000 in
set_option maxRecDepth 100000 in
/-- around -/
theorem kX1_around (l : Launch) (dC : Nat → ClassId) (dI : Nat → Nat → Nat) (cI cZ cA : ClassId) (a : Nat → Nat) (sz : Nat) (th : Nat) (n : Nat) (wv : Nat → Int32) (lo : Nat → Int32) (cf : Nat → Nat) (tf : Nat → Nat) (vs : Nat → Int32) (nr : Nat → Nat) (j d : Nat) (hd : d < 8) (hG : Gok n wv lo cf tf) (hj : j < n) : Met l yX1_around wsX1_around ({ frames := 1, cells := 0, slots := 0, locals := 21 }) (va_Pc [.ref (a 0), .int (nI j), .int (nI d)] (WP dC dI (GT cI cZ cA) (MW cI cZ a th n wv lo cf tf vs nr) sz)) (va_Qi (fun r (nr1 : Nat → Nat) => r = nI (cntP (rch cf tf j d) n)) (fun nr1 => WQ dC dI (GT cI cZ cA) (va_A (MW cI cZ a th n wv lo cf tf vs nr) sz) (MW cI cZ a 0 n wv lo cf tf vs nr1)) (va_A (MW cI cZ a th n wv lo cf tf vs nr) sz)) 0 0 (va_A (MW cI cZ a th n wv lo cf tf vs nr) sz) := by
  refine Met.ofW (cc := cX1_around) (maxL := 7) (ret := (some .int)) (by decide) rfl ?_
  intro p e s m args below meth c s₁ B hml hv
  obtain ⟨rfl, hsz, hP, hK, hD0⟩ := hv
  have hx := B.exec
  have hb := B.bytes
  have hr := B.returns
  have hts := atoms_spec (ws := wsX1_around) B.pre
  have hown : s.vm.findClass RX1 = some m.cls := findClass_of_methodNamed B.named
  have hlocks := B.notSynchronized
  have hf_29 := hts (.fieldLink RX1 29 "GraphSearchModel" "thrown" "I") (by decide +kernel)
  have hf_33 := hts (.fieldLink RX1 33 "GraphSearchModel" "nodes" "I") (by decide +kernel)
  have hf_26 := hts (.fieldLink RX1 26 "GraphSearchModel" "near" "[I") (by decide +kernel)
  have hf_17 := hts (.fieldLink RX1 17 "GraphSearchModel" "many" "[I") (by decide +kernel)
  have hf_20 := hts (.fieldLink RX1 20 "GraphSearchModel" "to" "[I") (by decide +kernel)
  have hiw : ∀ w ∈ wsX10, w ∈ wsX1_around := by decide +kernel
  subst hsz
  have hD := hD0.self (sz := s.heap.size)
  generalize hAe : va_A (MW cI cZ a th n wv lo cf tf vs nr) s.heap.size = A at hD ⊢
  have hA : ∀ q : Nat, s.heap.size ≤ q → A q := fun q h => by rw [← hAe]; exact Or.inr h
  have hS : va_S A s.heap s.heap [] := va_S.rf
  have hP : va_P (dC, dI) vwCl (MW cI cZ a th n wv lo cf tf vs nr) s.heap := hP
  have hl := lv_entry ([.ref (a 0), .int (nI j), .int (nI d)]) (n := 7) (Nat.le_of_ble_eq_true rfl)
  rw [lg_entry_eq]
  generalize (lg_sl ([.ref (a 0), .int (nI j), .int (nI d)]) ++ List.replicate (7 - (lg_sl ([.ref (a 0), .int (nI j), .int (nI d)])).length) Slot.unset).toArray = ls at hl ⊢
  have hl : lv_has ls 7 [(0, .ref (a 0)), (1, .int (nI j)), (2, .int (nI d))] := hl
  obtain ⟨-, hwr, hc, htt, hlo, hz0⟩ := id hG
  have hn4 := hG.1
  refine lv_aload_n hx hb dX1_around_0 rfl (lv_at hl 0 rfl) ?_
  refine lv_aload_n hx hb dX1_around_1 rfl (lv_at hl 0 rfl) ?_
  refine lv_iload_n hx hb dX1_around_2 rfl (lv_at hl 1 rfl) ?_
  refine W.callR (r := isn (nI j) n) (W.runV (As := [.int (nI j)]) (rest := [.ref (a 0)]) ⟨hx, hb, hml, hown, hts⟩ (kX1_isNode l dC dI cI cZ cA a th n wv lo cf tf vs nr (nI j)) (cwV 1 hts gX1_around_X1_isNode rfl rfl rfl (by decide +kernel) ⟨Nat.le_of_ble_eq_true rfl, Nat.le_of_ble_eq_true rfl⟩) ⟨blindR, va_recv hK hP (ci := 1) (q0 := 0) rfl rfl, preR hP hK⟩ rfl rfl hl.1 rfl (lv_room (Nat.le_of_ble_eq_true rfl)) dX1_around_3 ⟨Nat.zero_le _, Nat.zero_le _⟩) ?_
  refine W.eq (g2 := F0 m 6 ls [.int (isn (nI j) n), .ref (a 0)]) rfl ?_
  refine lv_if_eq (tgt := 23) hx hb dX1_around_6 (by decide) (fun h6 => absurd h6 (by rw [isn_1 hj (by omega)]; decide)) (fun h6 => ?_)
  refine lv_iload_n hx hb dX1_around_9 rfl (lv_at hl 2 rfl) ?_
  refine lv_if_lt (tgt := 23) hx hb dX1_around_10 (by decide) (fun h10 => absurd h10 (nI_pos (by omega))) (fun h10 => ?_)
  refine lv_iload_n hx hb dX1_around_13 rfl (lv_at hl 2 rfl) ?_
  refine lv_bipush (v := 7) hx hb dX1_around_14 (by decide) ?_
  refine lv_icmp_gt (tgt := 23) hx hb dX1_around_16 (by decide) (fun h16 => absurd h16 (seven_nlt hd)) (fun h16 => ?_)
  refine lv_iconst (v := 0) hx hb dX1_around_19 (by decide) ?_
  refine lv_goto (tgt := 24) hx hb dX1_around_20 (by decide) ?_
  refine ga_is (y := nI 0) (rfl) ?_
  refine va_put (D := (dC, dI)) (ci := 1) (v := .int (nI 0)) (ty := .int) (C := RX1) (T := TX1) (N := 8) hx hb hts hiw tyX1 tyX1_ok nmX1 hown hK hP hD hS 0 rfl rfl 0 (by decide) hf_29 (fun _ h9 => h9) rfl (by decide +kernel) rfl rfl (Nat.le_of_ble_eq_true rfl) dX1_around_24 (fun H locs hP hD hS => ?_)
  have hP : va_P (dC, dI) vwCl (MW cI cZ a 0 n wv lo cf tf vs nr) H := hP
  have hD : va_D A (MW cI cZ a 0 n wv lo cf tf vs nr) := hD
  refine lv_aload_n hx hb dX1_around_27 rfl (lv_at hl 0 rfl) ?_
  refine va_get (D := (dC, dI)) (ci := 1) (v := .int (nI 0)) (C := RX1) (T := TX1) (N := 8) hx hb hts hiw hown hK hP 0 rfl rfl 0 (by decide) hf_29 (fun _ h9 => h9) rfl dX1_around_28 ?_
  refine lv_if_le (tgt := 36) hx hb dX1_around_31 (by decide) (fun h31 => ?_) (fun h31 => absurd (show nI 0 ≤ 0 from Int32.le_refl _) h31)
  refine lv_iconst (v := 0) hx hb dX1_around_36 (by decide) ?_
  refine ga_is (y := nI 0) (rfl) ?_
  refine lv_istore_n (lv' := [(3, .int (nI 0)), (0, .ref (a 0)), (1, .int (nI j)), (2, .int (nI d))]) hx hb dX1_around_37 rfl hl (by decide) rfl (fun ls hl => ?_)
  have count : ∀ nr3 : Nat → Nat, Nr n cf tf j d nr3 → ∀ (k i : Nat), i + k = n → ∀ (H : Heap) (locs : List Loc), va_P (dC, dI) vwCl (MW cI cZ a 0 n wv lo cf tf vs nr3) H → va_D A (MW cI cZ a 0 n wv lo cf tf vs nr3) → va_S A s.heap H locs → ∀ ls : Array Slot, lv_has ls 7 [(4, .int (nI i)), (3, .int (nI (cntP (fun y => nr3 y < 100) i))), (0, .ref (a 0)), (1, .int (nI j)), (2, .int (nI d))] → W p l e (headSpec wsX1_around (({ frames := 1, cells := 0, slots := 0, locals := 21 }) : Room)).room s m ([.ref (a 0), .int (nI j), .int (nI d)] : List Value).toArray below meth c H locs 0 0 (MQ below (va_Qi (fun r (nr1 : Nat → Nat) => r = nI (cntP (rch cf tf j d) n)) (fun nr1 => WQ dC dI (GT cI cZ cA) A (MW cI cZ a 0 n wv lo cf tf vs nr1)) A) ([.ref (a 0), .int (nI j), .int (nI d)] : List Value).toArray s 0 0 A) (F0 m 183 ls []) := by
    intro nr3 hN k
    induction k with
    | zero =>
      intro i hi H locs hP hD hS ls hl
      obtain rfl : n = i := by omega
      refine lv_iload hx hb dX1_around_183 (lv_at hl 0 rfl) ?_
      refine lv_aload_n hx hb dX1_around_185 rfl (lv_at hl 2 rfl) ?_
      refine va_get (D := (dC, dI)) (ci := 1) (v := .int (nI n)) (C := RX1) (T := TX1) (N := 8) hx hb hts hiw hown hK hP 0 rfl rfl 1 (by decide) hf_33 (fun _ h9 => h9) rfl dX1_around_186 ?_
      refine lv_icmp_ge (tgt := 218) hx hb dX1_around_189 (by decide) (fun h189 => ?_) (fun h189 => absurd (Int32.le_refl _) h189)
      refine lv_iload_n hx hb dX1_around_218 rfl (lv_at hl 1 rfl) ?_
      exact W.iret (v := (nI (cntP (fun y => nr3 y < 100) n))) hx hb hr (fun t ht hW => ⟨⟨(nI (cntP (fun y => nr3 y < 100) n)), nr3, rfl, congrArg nI (cntP_congr n (fun k hk => hN.2.1 k hk)), by rw [ht]; exact hP, va_K.moved hW.alike hK, hD⟩, hS.F ht⟩) hS.2.2 dX1_around_219
    | succ k ih =>
      intro i hi H locs hP hD hS ls hl
      have hb1 : nr3 i ≤ 100 := by have := hN.1 i (by omega); omega
      refine lv_iload hx hb dX1_around_183 (lv_at hl 0 rfl) ?_
      refine lv_aload_n hx hb dX1_around_185 rfl (lv_at hl 2 rfl) ?_
      refine va_get (D := (dC, dI)) (ci := 1) (v := .int (nI n)) (C := RX1) (T := TX1) (N := 8) hx hb hts hiw hown hK hP 0 rfl rfl 1 (by decide) hf_33 (fun _ h9 => h9) rfl dX1_around_186 ?_
      refine lv_icmp_ge (tgt := 218) hx hb dX1_around_189 (by decide) (fun h189 => absurd h189 (nI_ge (by omega) (by omega))) (fun h189 => ?_)
      refine lv_iload_n hx hb dX1_around_192 rfl (lv_at hl 1 rfl) ?_
      refine lv_aload_n hx hb dX1_around_193 rfl (lv_at hl 2 rfl) ?_
      refine va_get (D := (dC, dI)) (ci := 1) (v := .ref (a 6)) (C := RX1) (T := TX1) (N := 8) hx hb hts hiw hown hK hP 0 rfl rfl 7 (by decide) hf_26 (fun _ h9 => h9) rfl dX1_around_194 ?_
      refine lv_iload hx hb dX1_around_197 (lv_at hl 0 rfl) ?_
      refine ga_iald hx hb hK hP 6 0 rfl rfl i (v := nI (nr3 i)) rfl (by omega) (by decide) dX1_around_199 ?_
      refine lv_bipush (v := 100) hx hb dX1_around_200 (by decide) ?_
      refine lv_icmp_ge (tgt := 209) hx hb dX1_around_202 (by decide) (fun h202 => ?_) (fun h202 => ?_)
      · refine lv_iconst (v := 0) hx hb dX1_around_209 (by decide) ?_
        refine lv_iadd hx hb dX1_around_210 ?_
        refine ga_is (y := nI (cntP (fun y => nr3 y < 100) (i + 1))) (by rw [cntP, if_neg (fun z => absurd h202 (nI_ge (b := 100) z (by decide)))]; exact nI_add _ 0) ?_
        refine lv_istore_n (lv' := [(3, .int (nI (cntP (fun y => nr3 y < 100) (i + 1)))), (4, .int (nI i)), (0, .ref (a 0)), (1, .int (nI j)), (2, .int (nI d))]) hx hb dX1_around_211 rfl hl (by decide) rfl (fun ls hl => ?_)
        refine lv_iinc (v := nI (i + 1)) (lv' := [(4, .int (nI (i + 1))), (3, .int (nI (cntP (fun y => nr3 y < 100) (i + 1)))), (0, .ref (a 0)), (1, .int (nI j)), (2, .int (nI d))]) hx hb dX1_around_212 hl (k := 1) rfl (nI_1 i) (by decide) rfl (fun ls hl => ?_)
        refine lv_goto (tgt := 183) hx hb dX1_around_215 (by decide) ?_
        exact ih (i + 1) (by omega) H locs hP hD hS ls (lv_sub hl [0, 1, 2, 3, 4] rfl)
      · refine lv_iconst (v := 1) hx hb dX1_around_205 (by decide) ?_
        refine lv_goto (tgt := 210) hx hb dX1_around_206 (by decide) ?_
        refine lv_iadd hx hb dX1_around_210 ?_
        refine ga_is (y := nI (cntP (fun y => nr3 y < 100) (i + 1))) (by rw [cntP, if_pos (by rcases Nat.lt_or_ge (nr3 i) 100 with z | z; exact z; exact absurd (nI_le (a := 100) z (by omega)) h202)]; exact nI_1 _) ?_
        refine lv_istore_n (lv' := [(3, .int (nI (cntP (fun y => nr3 y < 100) (i + 1)))), (4, .int (nI i)), (0, .ref (a 0)), (1, .int (nI j)), (2, .int (nI d))]) hx hb dX1_around_211 rfl hl (by decide) rfl (fun ls hl => ?_)
        refine lv_iinc (v := nI (i + 1)) (lv' := [(4, .int (nI (i + 1))), (3, .int (nI (cntP (fun y => nr3 y < 100) (i + 1)))), (0, .ref (a 0)), (1, .int (nI j)), (2, .int (nI d))]) hx hb dX1_around_212 hl (k := 1) rfl (nI_1 i) (by decide) rfl (fun ls hl => ?_)
        refine lv_goto (tgt := 183) hx hb dX1_around_215 (by decide) ?_
        exact ih (i + 1) (by omega) H locs hP hD hS ls (lv_sub hl [0, 1, 2, 3, 4] rfl)
  have outer : ∀ (k t : Nat), t + k = d → ∀ nr1 : Nat → Nat, Nr n cf tf j t nr1 → ∀ (H : Heap) (locs : List Loc), va_P (dC, dI) vwCl (MW cI cZ a 0 n wv lo cf tf vs nr1) H → va_D A (MW cI cZ a 0 n wv lo cf tf vs nr1) → va_S A s.heap H locs → ∀ ls : Array Slot, lv_has ls 7 [(3, .int (nI t)), (0, .ref (a 0)), (1, .int (nI j)), (2, .int (nI d))] → W p l e (headSpec wsX1_around (({ frames := 1, cells := 0, slots := 0, locals := 21 }) : Room)).room s m ([.ref (a 0), .int (nI j), .int (nI d)] : List Value).toArray below meth c H locs 0 0 (MQ below (va_Qi (fun r (nr1 : Nat → Nat) => r = nI (cntP (rch cf tf j d) n)) (fun nr1 => WQ dC dI (GT cI cZ cA) A (MW cI cZ a 0 n wv lo cf tf vs nr1)) A) ([.ref (a 0), .int (nI j), .int (nI d)] : List Value).toArray s 0 0 A) (F0 m 71 ls []) := by
    intro k
    induction k with
    | zero =>
      intro t ht nr1 hN H locs hP hD hS ls hl
      obtain rfl : d = t := by omega
      refine lv_iload_n hx hb dX1_around_71 rfl (lv_at hl 0 rfl) ?_
      refine lv_iload_n hx hb dX1_around_72 rfl (lv_at hl 3 rfl) ?_
      refine lv_icmp_ge (tgt := 178) hx hb dX1_around_73 (by decide) (fun h73 => ?_) (fun h73 => absurd (Int32.le_refl _) h73)
      refine lv_iconst (v := 0) hx hb dX1_around_178 (by decide) ?_
      refine ga_is (y := nI 0) (rfl) ?_
      refine lv_istore_n (lv' := [(3, .int (nI 0)), (0, .ref (a 0)), (1, .int (nI j)), (2, .int (nI d))]) hx hb dX1_around_179 rfl hl (by decide) rfl (fun ls hl => ?_)
      refine lv_iconst (v := 0) hx hb dX1_around_180 (by decide) ?_
      refine ga_is (y := nI 0) (rfl) ?_
      refine lv_istore (lv' := [(4, .int (nI 0)), (3, .int (nI 0)), (0, .ref (a 0)), (1, .int (nI j)), (2, .int (nI d))]) hx hb dX1_around_181 hl (by decide) rfl (fun ls hl => ?_)
      exact count nr1 hN n 0 (by omega) H locs hP hD hS ls (lv_sub hl [0, 1, 2, 3, 4] rfl)
    | succ k ih =>
      intro t ht nr1 hN H locs hP hD hS ls hl
      have ht8 : t < 8 := by omega
      refine lv_iload_n hx hb dX1_around_71 rfl (lv_at hl 0 rfl) ?_
      refine lv_iload_n hx hb dX1_around_72 rfl (lv_at hl 3 rfl) ?_
      refine lv_icmp_ge (tgt := 178) hx hb dX1_around_73 (by decide) (fun h73 => absurd h73 (nI_ge (by omega) (by omega))) (fun h73 => ?_)
      refine lv_iconst (v := 0) hx hb dX1_around_76 (by decide) ?_
      refine ga_is (y := nI 0) (rfl) ?_
      refine lv_istore (lv' := [(4, .int (nI 0)), (3, .int (nI t)), (0, .ref (a 0)), (1, .int (nI j)), (2, .int (nI d))]) hx hb dX1_around_77 hl (by decide) rfl (fun ls hl => ?_)
      have middle : ∀ (f2 k2 : Nat), k2 + f2 = n → ∀ nr2 : Nat → Nat, Nw n t nr1 (Ex cf tf nr1 t k2 0) nr2 → ∀ (H : Heap) (locs : List Loc), va_P (dC, dI) vwCl (MW cI cZ a 0 n wv lo cf tf vs nr2) H → va_D A (MW cI cZ a 0 n wv lo cf tf vs nr2) → va_S A s.heap H locs → ∀ ls : Array Slot, lv_has ls 7 [(4, .int (nI k2)), (3, .int (nI t)), (0, .ref (a 0)), (1, .int (nI j)), (2, .int (nI d))] → W p l e (headSpec wsX1_around (({ frames := 1, cells := 0, slots := 0, locals := 21 }) : Room)).room s m ([.ref (a 0), .int (nI j), .int (nI d)] : List Value).toArray below meth c H locs 0 0 (MQ below (va_Qi (fun r (nr1 : Nat → Nat) => r = nI (cntP (rch cf tf j d) n)) (fun nr1 => WQ dC dI (GT cI cZ cA) A (MW cI cZ a 0 n wv lo cf tf vs nr1)) A) ([.ref (a 0), .int (nI j), .int (nI d)] : List Value).toArray s 0 0 A) (F0 m 79 ls []) := by
        intro f2
        induction f2 with
        | zero =>
          intro k2 hk2 nr2 hW2 H locs hP hD hS ls hl
          obtain rfl : n = k2 := by omega
          refine lv_iload hx hb dX1_around_79 (lv_at hl 0 rfl) ?_
          refine lv_aload_n hx hb dX1_around_81 rfl (lv_at hl 2 rfl) ?_
          refine va_get (D := (dC, dI)) (ci := 1) (v := .int (nI n)) (C := RX1) (T := TX1) (N := 8) hx hb hts hiw hown hK hP 0 rfl rfl 1 (by decide) hf_33 (fun _ h9 => h9) rfl dX1_around_82 ?_
          refine lv_icmp_ge (tgt := 172) hx hb dX1_around_85 (by decide) (fun h85 => ?_) (fun h85 => absurd (Int32.le_refl _) h85)
          refine lv_iinc (v := nI (t + 1)) (lv' := [(3, .int (nI (t + 1))), (4, .int (nI n)), (0, .ref (a 0)), (1, .int (nI j)), (2, .int (nI d))]) hx hb dX1_around_172 hl (k := 1) rfl (nI_1 t) (by decide) rfl (fun ls hl => ?_)
          refine lv_goto (tgt := 71) hx hb dX1_around_175 (by decide) ?_
          exact ih (t + 1) (by omega) nr2 (hN.next hj ht8 htt hW2) H locs hP hD hS ls (lv_sub hl [0, 2, 3, 4] rfl)
        | succ f2 ih2 =>
          intro k2 hk2 nr2 hW2 H locs hP hD hS ls hl
          have hk2n : k2 < n := by omega
          have hck := hc k2 hk2n
          refine lv_iload hx hb dX1_around_79 (lv_at hl 0 rfl) ?_
          refine lv_aload_n hx hb dX1_around_81 rfl (lv_at hl 2 rfl) ?_
          refine va_get (D := (dC, dI)) (ci := 1) (v := .int (nI n)) (C := RX1) (T := TX1) (N := 8) hx hb hts hiw hown hK hP 0 rfl rfl 1 (by decide) hf_33 (fun _ h9 => h9) rfl dX1_around_82 ?_
          refine lv_icmp_ge (tgt := 172) hx hb dX1_around_85 (by decide) (fun h85 => absurd h85 (nI_ge (by omega) (by omega))) (fun h85 => ?_)
          refine lv_iconst (v := 0) hx hb dX1_around_88 (by decide) ?_
          refine ga_is (y := nI 0) (rfl) ?_
          refine lv_istore (lv' := [(5, .int (nI 0)), (4, .int (nI k2)), (3, .int (nI t)), (0, .ref (a 0)), (1, .int (nI j)), (2, .int (nI d))]) hx hb dX1_around_89 hl (by decide) rfl (fun ls hl => ?_)
          have inner : ∀ (f3 i : Nat), i + f3 = cf k2 → ∀ nr3 : Nat → Nat, Nw n t nr1 (Ex cf tf nr1 t k2 i) nr3 → ∀ (H : Heap) (locs : List Loc), va_P (dC, dI) vwCl (MW cI cZ a 0 n wv lo cf tf vs nr3) H → va_D A (MW cI cZ a 0 n wv lo cf tf vs nr3) → va_S A s.heap H locs → ∀ ls : Array Slot, lv_has ls 7 [(5, .int (nI i)), (4, .int (nI k2)), (3, .int (nI t)), (0, .ref (a 0)), (1, .int (nI j)), (2, .int (nI d))] → W p l e (headSpec wsX1_around (({ frames := 1, cells := 0, slots := 0, locals := 21 }) : Room)).room s m ([.ref (a 0), .int (nI j), .int (nI d)] : List Value).toArray below meth c H locs 0 0 (MQ below (va_Qi (fun r (nr1 : Nat → Nat) => r = nI (cntP (rch cf tf j d) n)) (fun nr1 => WQ dC dI (GT cI cZ cA) A (MW cI cZ a 0 n wv lo cf tf vs nr1)) A) ([.ref (a 0), .int (nI j), .int (nI d)] : List Value).toArray s 0 0 A) (F0 m 91 ls []) := by
            intro f3
            induction f3 with
            | zero =>
              intro i hi nr3 hW3 H locs hP hD hS ls hl
              obtain rfl : i = cf k2 := by omega
              refine lv_iload hx hb dX1_around_91 (lv_at hl 0 rfl) ?_
              refine lv_aload_n hx hb dX1_around_93 rfl (lv_at hl 3 rfl) ?_
              refine va_get (D := (dC, dI)) (ci := 1) (v := .ref (a 3)) (C := RX1) (T := TX1) (N := 8) hx hb hts hiw hown hK hP 0 rfl rfl 4 (by decide) hf_17 (fun _ h9 => h9) rfl dX1_around_94 ?_
              refine lv_iload hx hb dX1_around_97 (lv_at hl 1 rfl) ?_
              refine ga_iald hx hb hK hP 3 0 rfl rfl k2 (v := nI (cf k2)) rfl (by omega) (by decide) dX1_around_99 ?_
              refine lv_icmp_ge (tgt := 166) hx hb dX1_around_100 (by decide) (fun h100 => ?_) (fun h100 => absurd (Int32.le_refl _) h100)
              refine lv_iinc (v := nI (k2 + 1)) (lv' := [(4, .int (nI (k2 + 1))), (5, .int (nI (cf k2))), (3, .int (nI t)), (0, .ref (a 0)), (1, .int (nI j)), (2, .int (nI d))]) hx hb dX1_around_166 hl (k := 1) rfl (nI_1 k2) (by decide) rfl (fun ls hl => ?_)
              refine lv_goto (tgt := 79) hx hb dX1_around_169 (by decide) ?_
              refine ih2 (k2 + 1) (by omega) nr3 (hW3.iff (fun y => ?_)) H locs hP hD hS ls (lv_sub hl [0, 2, 3, 4, 5] rfl)
              rw [← Ex_0 y]
              by_cases e : nr1 k2 = t
              · rw [if_pos e]
              · rw [if_neg e]; exact Ex_n e y
            | succ f3 ih3 =>
              intro i hi nr3 hW3 H locs hP hD hS ls hl
              have hle := hW3.le ht8 hk2n
              refine lv_iload hx hb dX1_around_91 (lv_at hl 0 rfl) ?_
              refine lv_aload_n hx hb dX1_around_93 rfl (lv_at hl 3 rfl) ?_
              refine va_get (D := (dC, dI)) (ci := 1) (v := .ref (a 3)) (C := RX1) (T := TX1) (N := 8) hx hb hts hiw hown hK hP 0 rfl rfl 4 (by decide) hf_17 (fun _ h9 => h9) rfl dX1_around_94 ?_
              refine lv_iload hx hb dX1_around_97 (lv_at hl 1 rfl) ?_
              refine ga_iald hx hb hK hP 3 0 rfl rfl k2 (v := nI (cf k2)) rfl (by omega) (by decide) dX1_around_99 ?_
              refine lv_icmp_ge (tgt := 166) hx hb dX1_around_100 (by decide) (fun h100 => absurd h100 (nI_ge (by omega) (by omega))) (fun h100 => ?_)
              refine lv_aload_n hx hb dX1_around_103 rfl (lv_at hl 3 rfl) ?_
              refine va_get (D := (dC, dI)) (ci := 1) (v := .ref (a 6)) (C := RX1) (T := TX1) (N := 8) hx hb hts hiw hown hK hP 0 rfl rfl 7 (by decide) hf_26 (fun _ h9 => h9) rfl dX1_around_104 ?_
              refine lv_iload hx hb dX1_around_107 (lv_at hl 1 rfl) ?_
              refine ga_iald hx hb hK hP 6 0 rfl rfl k2 (v := nI (nr3 k2)) rfl (by omega) (by decide) dX1_around_109 ?_
              refine lv_iload_n hx hb dX1_around_110 rfl (lv_at hl 2 rfl) ?_
              refine lv_icmp_ne (tgt := 166) hx hb dX1_around_111 (by decide) (fun h111 => ?_) (fun h111 => ?_)
              · have e : ¬ nr1 k2 = t := fun e => h111 (by rw [(hW3.at ht8 hk2n).mpr e])
                refine lv_iinc (v := nI (k2 + 1)) (lv' := [(4, .int (nI (k2 + 1))), (5, .int (nI i)), (3, .int (nI t)), (0, .ref (a 0)), (1, .int (nI j)), (2, .int (nI d))]) hx hb dX1_around_166 hl (k := 1) rfl (nI_1 k2) (by decide) rfl (fun ls hl => ?_)
                refine lv_goto (tgt := 79) hx hb dX1_around_169 (by decide) ?_
                refine ih2 (k2 + 1) (by omega) nr3 (hW3.iff (fun y => ?_)) H locs hP hD hS ls (lv_sub hl [0, 2, 3, 4, 5] rfl)
                rw [← Ex_0 y, if_neg e]
                exact Ex_n e y
              · have e : nr1 k2 = t := (hW3.at ht8 hk2n).mp ((nI_eq (by omega) (by omega)).mp h111)
                have hyn := htt k2 hk2n i (by omega)
                have hly := hW3.le ht8 hyn
                refine lv_aload_n hx hb dX1_around_114 rfl (lv_at hl 3 rfl) ?_
                refine va_get (D := (dC, dI)) (ci := 1) (v := .ref (a 4)) (C := RX1) (T := TX1) (N := 8) hx hb hts hiw hown hK hP 0 rfl rfl 5 (by decide) hf_20 (fun _ h9 => h9) rfl dX1_around_115 ?_
                refine lv_bipush (v := 6) hx hb dX1_around_118 (by decide) ?_
                refine lv_iload hx hb dX1_around_120 (lv_at hl 1 rfl) ?_
                refine lv_imul hx hb dX1_around_122 ?_
                refine lv_iload hx hb dX1_around_123 (lv_at hl 0 rfl) ?_
                refine lv_iadd hx hb dX1_around_125 ?_
                refine ga_is (y := nI (k2 * 6 + i)) (by rw [show (6 : Int32) = nI 6 from rfl, pk_mul, nI_add, Nat.mul_comm 6 k2]) ?_
                refine ga_iald hx hb hK hP 4 0 rfl rfl (k2 * 6 + i) (v := nI (tf (k2 * 6 + i))) rfl (by omega) (by decide) dX1_around_126 ?_
                refine lv_istore (lv' := [(6, .int (nI (tf (k2 * 6 + i)))), (5, .int (nI i)), (4, .int (nI k2)), (3, .int (nI t)), (0, .ref (a 0)), (1, .int (nI j)), (2, .int (nI d))]) hx hb dX1_around_127 hl (by decide) rfl (fun ls hl => ?_)
                refine lv_aload_n hx hb dX1_around_129 rfl (lv_at hl 4 rfl) ?_
                refine va_get (D := (dC, dI)) (ci := 1) (v := .ref (a 6)) (C := RX1) (T := TX1) (N := 8) hx hb hts hiw hown hK hP 0 rfl rfl 7 (by decide) hf_26 (fun _ h9 => h9) rfl dX1_around_130 ?_
                refine lv_iload hx hb dX1_around_133 (lv_at hl 0 rfl) ?_
                refine lv_aload_n hx hb dX1_around_135 rfl (lv_at hl 4 rfl) ?_
                refine va_get (D := (dC, dI)) (ci := 1) (v := .ref (a 6)) (C := RX1) (T := TX1) (N := 8) hx hb hts hiw hown hK hP 0 rfl rfl 7 (by decide) hf_26 (fun _ h9 => h9) rfl dX1_around_136 ?_
                refine lv_iload hx hb dX1_around_139 (lv_at hl 0 rfl) ?_
                refine ga_iald hx hb hK hP 6 0 rfl rfl (tf (k2 * 6 + i)) (v := nI (nr3 (tf (k2 * 6 + i)))) rfl (by omega) (by decide) dX1_around_141 ?_
                refine lv_iload_n hx hb dX1_around_142 rfl (lv_at hl 3 rfl) ?_
                refine lv_icmp_le (tgt := 152) hx hb dX1_around_143 (by decide) (fun h143 => ?_) (fun h143 => ?_)
                · refine lv_aload_n hx hb dX1_around_152 rfl (lv_at hl 4 rfl) ?_
                  refine va_get (D := (dC, dI)) (ci := 1) (v := .ref (a 6)) (C := RX1) (T := TX1) (N := 8) hx hb hts hiw hown hK hP 0 rfl rfl 7 (by decide) hf_26 (fun _ h9 => h9) rfl dX1_around_153 ?_
                  refine lv_iload hx hb dX1_around_156 (lv_at hl 0 rfl) ?_
                  refine ga_iald hx hb hK hP 6 0 rfl rfl (tf (k2 * 6 + i)) (v := nI (nr3 (tf (k2 * 6 + i)))) rfl (by omega) (by decide) dX1_around_158 ?_
                  refine ga_iast hx hb hK hP hD hS 6 0 rfl rfl (tf (k2 * 6 + i)) (by omega) (by decide) (upd_nI _ _ (nr3 (tf (k2 * 6 + i)))) (ws' := MW cI cZ a 0 n wv lo cf tf vs (va_up nr3 (tf (k2 * 6 + i)) (nr3 (tf (k2 * 6 + i))))) rfl dX1_around_159 (fun H locs hP hD hS => ?_)
                  refine lv_iinc (v := nI (i + 1)) (lv' := [(5, .int (nI (i + 1))), (6, .int (nI (tf (k2 * 6 + i)))), (4, .int (nI k2)), (3, .int (nI t)), (0, .ref (a 0)), (1, .int (nI j)), (2, .int (nI d))]) hx hb dX1_around_160 hl (k := 1) rfl (nI_1 i) (by decide) rfl (fun ls hl => ?_)
                  refine lv_goto (tgt := 91) hx hb dX1_around_163 (by decide) ?_
                  exact ih3 (i + 1) (by omega) _ (hW3.put ht8 hyn (by rw [if_pos ((nI_leI (by omega) (by omega)).mp h143)]) (Ex_s e)) H locs hP hD hS ls (lv_sub hl [0, 2, 3, 4, 5, 6] rfl)
                · refine lv_iload_n hx hb dX1_around_146 rfl (lv_at hl 3 rfl) ?_
                  refine lv_iconst (v := 1) hx hb dX1_around_147 (by decide) ?_
                  refine lv_iadd hx hb dX1_around_148 ?_
                  refine ga_is (y := nI (t + 1)) (nI_1 t) ?_
                  refine lv_goto (tgt := 159) hx hb dX1_around_149 (by decide) ?_
                  refine ga_iast hx hb hK hP hD hS 6 0 rfl rfl (tf (k2 * 6 + i)) (by omega) (by decide) (upd_nI _ _ (t + 1)) (ws' := MW cI cZ a 0 n wv lo cf tf vs (va_up nr3 (tf (k2 * 6 + i)) (t + 1))) rfl dX1_around_159 (fun H locs hP hD hS => ?_)
                  refine lv_iinc (v := nI (i + 1)) (lv' := [(5, .int (nI (i + 1))), (6, .int (nI (tf (k2 * 6 + i)))), (4, .int (nI k2)), (3, .int (nI t)), (0, .ref (a 0)), (1, .int (nI j)), (2, .int (nI d))]) hx hb dX1_around_160 hl (k := 1) rfl (nI_1 i) (by decide) rfl (fun ls hl => ?_)
                  refine lv_goto (tgt := 91) hx hb dX1_around_163 (by decide) ?_
                  exact ih3 (i + 1) (by omega) _ (hW3.put ht8 hyn (by rw [if_neg (fun z => h143 ((nI_leI (by omega) (by omega)).mpr z))]) (Ex_s e)) H locs hP hD hS ls (lv_sub hl [0, 2, 3, 4, 5, 6] rfl)
          exact inner (cf k2) 0 (by omega) nr2 hW2 H locs hP hD hS ls (lv_sub hl [0, 1, 2, 3, 4, 5] rfl)
      refine middle n 0 (by omega) nr1 (fun y hy => ⟨fun _ => rfl, fun q => ⟨fun z => ?_, fun _ => ?_⟩⟩) H locs hP hD hS ls (lv_sub hl [0, 1, 2, 3, 4] rfl)
      · rcases z with ⟨v, z1, -⟩ | ⟨-, v, z1, -⟩
        · exact absurd z1 (by omega)
        · exact absurd z1 (by omega)
      · have := hN.1 y hy
        omega
  have start : ∀ (k i : Nat), i + k = n → ∀ nr1 : Nat → Nat, (∀ y, y < i → nr1 y = if y = j then 0 else 100) → ∀ (H : Heap) (locs : List Loc), va_P (dC, dI) vwCl (MW cI cZ a 0 n wv lo cf tf vs nr1) H → va_D A (MW cI cZ a 0 n wv lo cf tf vs nr1) → va_S A s.heap H locs → ∀ ls : Array Slot, lv_has ls 7 [(3, .int (nI i)), (0, .ref (a 0)), (1, .int (nI j)), (2, .int (nI d))] → W p l e (headSpec wsX1_around (({ frames := 1, cells := 0, slots := 0, locals := 21 }) : Room)).room s m ([.ref (a 0), .int (nI j), .int (nI d)] : List Value).toArray below meth c H locs 0 0 (MQ below (va_Qi (fun r (nr1 : Nat → Nat) => r = nI (cntP (rch cf tf j d) n)) (fun nr1 => WQ dC dI (GT cI cZ cA) A (MW cI cZ a 0 n wv lo cf tf vs nr1)) A) ([.ref (a 0), .int (nI j), .int (nI d)] : List Value).toArray s 0 0 A) (F0 m 38 ls []) := by
    intro k
    induction k with
    | zero =>
      intro i hi nr1 h1 H locs hP hD hS ls hl
      obtain rfl : n = i := by omega
      refine lv_iload_n hx hb dX1_around_38 rfl (lv_at hl 0 rfl) ?_
      refine lv_aload_n hx hb dX1_around_39 rfl (lv_at hl 1 rfl) ?_
      refine va_get (D := (dC, dI)) (ci := 1) (v := .int (nI n)) (C := RX1) (T := TX1) (N := 8) hx hb hts hiw hown hK hP 0 rfl rfl 1 (by decide) hf_33 (fun _ h9 => h9) rfl dX1_around_40 ?_
      refine lv_icmp_ge (tgt := 69) hx hb dX1_around_43 (by decide) (fun h43 => ?_) (fun h43 => absurd (Int32.le_refl _) h43)
      refine lv_iconst (v := 0) hx hb dX1_around_69 (by decide) ?_
      refine ga_is (y := nI 0) (rfl) ?_
      refine lv_istore_n (lv' := [(3, .int (nI 0)), (0, .ref (a 0)), (1, .int (nI j)), (2, .int (nI d))]) hx hb dX1_around_70 rfl hl (by decide) rfl (fun ls hl => ?_)
      refine outer d 0 (by omega) nr1 ⟨fun y hy => ?_, fun y hy => ?_, fun k _ hk => absurd hk (by omega)⟩ H locs hP hD hS ls (lv_sub hl [0, 1, 2, 3] rfl)
      · rw [h1 y hy]
        by_cases e : y = j
        · rw [if_pos e]; exact Or.inl (Nat.le_refl _)
        · rw [if_neg e]; exact Or.inr rfl
      · rw [h1 y hy]
        show _ ↔ y = j
        by_cases e : y = j
        · rw [if_pos e]; exact ⟨fun _ => e, fun _ => by omega⟩
        · rw [if_neg e]; exact ⟨fun q => absurd q (by omega), fun q => absurd q e⟩
    | succ k ih =>
      intro i hi nr1 h1 H locs hP hD hS ls hl
      refine lv_iload_n hx hb dX1_around_38 rfl (lv_at hl 0 rfl) ?_
      refine lv_aload_n hx hb dX1_around_39 rfl (lv_at hl 1 rfl) ?_
      refine va_get (D := (dC, dI)) (ci := 1) (v := .int (nI n)) (C := RX1) (T := TX1) (N := 8) hx hb hts hiw hown hK hP 0 rfl rfl 1 (by decide) hf_33 (fun _ h9 => h9) rfl dX1_around_40 ?_
      refine lv_icmp_ge (tgt := 69) hx hb dX1_around_43 (by decide) (fun h43 => absurd h43 (nI_ge (by omega) (by omega))) (fun h43 => ?_)
      refine lv_aload_n hx hb dX1_around_46 rfl (lv_at hl 1 rfl) ?_
      refine va_get (D := (dC, dI)) (ci := 1) (v := .ref (a 6)) (C := RX1) (T := TX1) (N := 8) hx hb hts hiw hown hK hP 0 rfl rfl 7 (by decide) hf_26 (fun _ h9 => h9) rfl dX1_around_47 ?_
      refine lv_iload_n hx hb dX1_around_50 rfl (lv_at hl 0 rfl) ?_
      refine lv_iload_n hx hb dX1_around_51 rfl (lv_at hl 0 rfl) ?_
      refine lv_iload_n hx hb dX1_around_52 rfl (lv_at hl 2 rfl) ?_
      refine lv_icmp_ne (tgt := 60) hx hb dX1_around_53 (by decide) (fun h53 => ?_) (fun h53 => ?_)
      · refine lv_bipush (v := 100) hx hb dX1_around_60 (by decide) ?_
        refine ga_is (y := nI 100) (rfl) ?_
        refine ga_iast hx hb hK hP hD hS 6 0 rfl rfl i (by omega) (by decide) (upd_nI _ _ 100) (ws' := MW cI cZ a 0 n wv lo cf tf vs (va_up nr1 i 100)) rfl dX1_around_62 (fun H locs hP hD hS => ?_)
        refine lv_iinc (v := nI (i + 1)) (lv' := [(3, .int (nI (i + 1))), (0, .ref (a 0)), (1, .int (nI j)), (2, .int (nI d))]) hx hb dX1_around_63 hl (k := 0) rfl (nI_1 i) (by decide) rfl (fun ls hl => ?_)
        refine lv_goto (tgt := 38) hx hb dX1_around_66 (by decide) ?_
        refine ih (i + 1) (by omega) _ (fun y hy => ?_) H locs hP hD hS ls (lv_sub hl [0, 1, 2, 3] rfl)
        by_cases e : y = i
        · rw [e, va_up_self, if_neg (fun z => h53 (by rw [z]))]
        · rw [va_up_ne _ _ e]; exact h1 y (by omega)
      · refine lv_iconst (v := 0) hx hb dX1_around_56 (by decide) ?_
        refine lv_goto (tgt := 62) hx hb dX1_around_57 (by decide) ?_
        refine ga_is (y := nI 0) (rfl) ?_
        refine ga_iast hx hb hK hP hD hS 6 0 rfl rfl i (by omega) (by decide) (upd_nI _ _ 0) (ws' := MW cI cZ a 0 n wv lo cf tf vs (va_up nr1 i 0)) rfl dX1_around_62 (fun H locs hP hD hS => ?_)
        refine lv_iinc (v := nI (i + 1)) (lv' := [(3, .int (nI (i + 1))), (0, .ref (a 0)), (1, .int (nI j)), (2, .int (nI d))]) hx hb dX1_around_63 hl (k := 0) rfl (nI_1 i) (by decide) rfl (fun ls hl => ?_)
        refine lv_goto (tgt := 38) hx hb dX1_around_66 (by decide) ?_
        refine ih (i + 1) (by omega) _ (fun y hy => ?_) H locs hP hD hS ls (lv_sub hl [0, 1, 2, 3] rfl)
        by_cases e : y = i
        · rw [e, va_up_self, if_pos ((nI_eq (by omega) (by omega)).mp h53)]
        · rw [va_up_ne _ _ e]; exact h1 y (by omega)
  exact start n 0 (by omega) nr (fun y hy => absurd hy (by omega)) H locs hP hD hS ls (lv_sub hl [0, 1, 2, 3] rfl)
