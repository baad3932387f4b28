/-- the model's values hold up to a depth -/
def Vok (n : Nat) (wv lo : Nat → Int32) (cf tf : Nat → Nat) (d : Nat) (vs : Nat → Int32) : Prop := ∀ e, e ≤ d → ∀ x, x < n → vs (400 * e + x) = vv wv lo cf tf e x
theorem vv_end {wv lo : Nat → Int32} {cf tf : Nat → Nat} {d x : Nat} (h : cf x = 0) : vv wv lo cf tf d x = if lo x = 0 then 0 else (-1000) := by
  cases d with
  | zero => exact if_pos h
  | succ d => exact if_pos h
theorem wk_put {n : Nat} {wv lo : Nat → Int32} {cf tf : Nat → Nat} {d x : Nat} {vs : Nat → Int32} {v : Int32} (hn : n ≤ 400) (hx : x < n) (h1 : ∀ e, e < d → ∀ y, y < n → vs (400 * e + y) = vv wv lo cf tf e y) (h2 : ∀ y, y < x → vs (400 * d + y) = vv wv lo cf tf d y) (hv : v = vv wv lo cf tf d x) :
    (∀ e, e < d → ∀ y, y < n → upd vs (400 * d + x) v (400 * e + y) = vv wv lo cf tf e y) ∧ (∀ y, y < x + 1 → upd vs (400 * d + x) v (400 * d + y) = vv wv lo cf tf d y) := by
  refine ⟨fun e he y hy => ?_, fun y hy => ?_⟩
  · rw [upd_n (by omega)]; exact h1 e he y hy
  · by_cases e : y = x
    · rw [e, upd_s, hv]
    · rw [upd_n (by omega)]; exact h2 y (by omega)
set_option maxHeartbeats 4000000 in
set_option maxRecDepth 100000 in
/-- work -/
theorem kX1_work (l : Launch) (dC : Nat → ClassId) (dI : Nat → Nat → Nat) (cI cZ cA : ClassId) (a : Nat → Nat) (sz : Nat) (th : Nat) (n : Nat) (wv : Nat → Int32) (lo : Nat → Int32) (cf : Nat → Nat) (tf : Nat → Nat) (vs : Nat → Int32) (nr : Nat → Nat) (d : Nat) (hd : d < 8) (hG : Gok n wv lo cf tf) : Met l yX1_work wsX1_work ({ frames := 3, cells := 0, slots := 0, locals := 67 }) (va_Pc [.ref (a 0), .int (nI d)] (WP dC dI (GT cI cZ cA) (MW cI cZ a th n wv lo cf tf vs nr) sz)) (va_Qv (fun vs1 : Nat → Int32 => Vok n wv lo cf tf d vs1) (fun vs1 => WQ dC dI (GT cI cZ cA) (va_A (MW cI cZ a th n wv lo cf tf vs nr) sz) (MW cI cZ a th n wv lo cf tf vs1 nr)) (va_A (MW cI cZ a th n wv lo cf tf vs nr) sz)) 0 0 (va_A (MW cI cZ a th n wv lo cf tf vs nr) sz) := by
  refine Met.ofW (cc := cX1_work) (maxL := 5) (ret := none) (by decide) rfl ?_
  intro p e s m args below meth c s₁ B hml hv
  obtain ⟨rfl, hsz, hP, hK, hD0⟩ := hv
  have hx := B.exec
  have hb := B.bytes
  have hr := B.returns
  have hts := atoms_spec (ws := wsX1_work) B.pre
  have hown : s.vm.findClass RX1 = some m.cls := findClass_of_methodNamed B.named
  have hlocks := B.notSynchronized
  have hf_33 := hts (.fieldLink RX1 33 "GraphSearchModel" "nodes" "I") (by decide +kernel)
  have hf_13 := hts (.fieldLink RX1 13 "GraphSearchModel" "lost" "[Z") (by decide +kernel)
  have hf_23 := hts (.fieldLink RX1 23 "GraphSearchModel" "values" "[I") (by decide +kernel)
  have hf_17 := hts (.fieldLink RX1 17 "GraphSearchModel" "many" "[I") (by decide +kernel)
  have hf_7 := hts (.fieldLink RX1 7 "GraphSearchModel" "worth" "[I") (by decide +kernel)
  have hiw : ∀ w ∈ wsX10, w ∈ wsX1_work := by decide +kernel
  subst hsz
  have hD := hD0.self (sz := s.heap.size)
  generalize hAe : va_A (MW cI cZ a th n wv lo cf tf vs nr) s.heap.size = A at hD ⊢
  have hA : ∀ q : Nat, s.heap.size ≤ q → A q := fun q h => by rw [← hAe]; exact Or.inr h
  have hS : va_S A s.heap s.heap [] := va_S.rf
  have hP : va_P (dC, dI) vwCl (MW cI cZ a th n wv lo cf tf vs nr) s.heap := hP
  have hl := lv_entry ([.ref (a 0), .int (nI d)]) (n := 5) (Nat.le_of_ble_eq_true rfl)
  rw [lg_entry_eq]
  generalize (lg_sl ([.ref (a 0), .int (nI d)]) ++ List.replicate (5 - (lg_sl ([.ref (a 0), .int (nI d)])).length) Slot.unset).toArray = ls at hl ⊢
  have hl : lv_has ls 5 [(0, .ref (a 0)), (1, .int (nI d))] := hl
  obtain ⟨hn4, hwr, hc, htt, hlo, hz0⟩ := id hG
  refine lv_iconst (v := 0) hx hb dX1_work_0 (by decide) ?_
  refine ga_is (y := nI 0) (rfl) ?_
  refine lv_istore_n (lv' := [(2, .int (nI 0)), (0, .ref (a 0)), (1, .int (nI d))]) hx hb dX1_work_1 rfl hl (by decide) rfl (fun ls hl => ?_)
  have outer : ∀ (k t : Nat), t + k = d + 1 → ∀ vs1 : Nat → Int32, (∀ e, e < t → ∀ x, x < n → vs1 (400 * e + x) = vv wv lo cf tf e x) → ∀ (H : Heap) (locs : List Loc), va_P (dC, dI) vwCl (MW cI cZ a th n wv lo cf tf vs1 nr) H → va_D A (MW cI cZ a th n wv lo cf tf vs1 nr) → va_S A s.heap H locs → ∀ ls : Array Slot, lv_has ls 5 [(2, .int (nI t)), (0, .ref (a 0)), (1, .int (nI d))] → W p l e (headSpec wsX1_work (({ frames := 3, cells := 0, slots := 0, locals := 67 }) : Room)).room s m ([.ref (a 0), .int (nI d)] : List Value).toArray below meth c H locs 0 0 (MQ below (va_Qv (fun vs1 : Nat → Int32 => Vok n wv lo cf tf d vs1) (fun vs1 => WQ dC dI (GT cI cZ cA) A (MW cI cZ a th n wv lo cf tf vs1 nr)) A) ([.ref (a 0), .int (nI d)] : List Value).toArray s 0 0 A) (F0 m 2 ls []) := by
    intro k
    induction k with
    | zero =>
      intro t ht vs1 h1 H locs hP hD hS ls hl
      obtain rfl : t = d + 1 := by omega
      refine lv_iload_n hx hb dX1_work_2 rfl (lv_at hl 0 rfl) ?_
      refine lv_iload_n hx hb dX1_work_3 rfl (lv_at hl 2 rfl) ?_
      refine lv_icmp_gt (tgt := 92) hx hb dX1_work_4 (by decide) (fun h4 => ?_) (fun h4 => absurd (nI_lt (by omega) (by omega)) h4)
      exact W.vret hx hb hr (fun t ht hW => ⟨⟨vs1, rfl, fun e he x hx => h1 e (by omega) x hx, by rw [ht]; exact hP, va_K.moved hW.alike hK, hD⟩, hS.F ht⟩) hS.2.2 dX1_work_92
    | succ k ih =>
      intro t ht vs1 h1 H locs hP hD hS ls hl
      refine lv_iload_n hx hb dX1_work_2 rfl (lv_at hl 0 rfl) ?_
      refine lv_iload_n hx hb dX1_work_3 rfl (lv_at hl 2 rfl) ?_
      refine lv_icmp_gt (tgt := 92) hx hb dX1_work_4 (by decide) (fun h4 => absurd h4 (nI_nlt (by omega) (by omega))) (fun h4 => ?_)
      refine lv_iconst (v := 0) hx hb dX1_work_7 (by decide) ?_
      refine ga_is (y := nI 0) (rfl) ?_
      refine lv_istore_n (lv' := [(3, .int (nI 0)), (2, .int (nI t)), (0, .ref (a 0)), (1, .int (nI d))]) hx hb dX1_work_8 rfl hl (by decide) rfl (fun ls hl => ?_)
      have inner : ∀ (k2 x : Nat), x + k2 = n → ∀ vs2 : Nat → Int32, (∀ e, e < t → ∀ y, y < n → vs2 (400 * e + y) = vv wv lo cf tf e y) → (∀ y, y < x → vs2 (400 * t + y) = vv wv lo cf tf t y) → ∀ (H : Heap) (locs : List Loc), va_P (dC, dI) vwCl (MW cI cZ a th n wv lo cf tf vs2 nr) H → va_D A (MW cI cZ a th n wv lo cf tf vs2 nr) → va_S A s.heap H locs → ∀ ls : Array Slot, lv_has ls 5 [(3, .int (nI x)), (2, .int (nI t)), (0, .ref (a 0)), (1, .int (nI d))] → W p l e (headSpec wsX1_work (({ frames := 3, cells := 0, slots := 0, locals := 67 }) : Room)).room s m ([.ref (a 0), .int (nI d)] : List Value).toArray below meth c H locs 0 0 (MQ below (va_Qv (fun vs1 : Nat → Int32 => Vok n wv lo cf tf d vs1) (fun vs1 => WQ dC dI (GT cI cZ cA) A (MW cI cZ a th n wv lo cf tf vs1 nr)) A) ([.ref (a 0), .int (nI d)] : List Value).toArray s 0 0 A) (F0 m 9 ls []) := by
        intro k2
        induction k2 with
        | zero =>
          intro x hx0 vs2 c1 c2 H locs hP hD hS ls hl
          obtain rfl : n = x := by omega
          refine lv_iload_n hx hb dX1_work_9 rfl (lv_at hl 0 rfl) ?_
          refine lv_aload_n hx hb dX1_work_10 rfl (lv_at hl 2 rfl) ?_
          refine va_get (D := (dC, dI)) (ci := 1) (v := .int (nI n)) (C := RX1) (T := TX1) (N := 8) hx hb hts hiw hown hK hP 0 rfl rfl 1 (by decide) hf_33 (fun _ h9 => h9) rfl dX1_work_11 ?_
          refine lv_icmp_ge (tgt := 86) hx hb dX1_work_14 (by decide) (fun h14 => ?_) (fun h14 => absurd (Int32.le_refl _) h14)
          refine lv_iinc (v := nI (t + 1)) (lv' := [(2, .int (nI (t + 1))), (3, .int (nI n)), (0, .ref (a 0)), (1, .int (nI d))]) hx hb dX1_work_86 hl (k := 1) rfl (nI_1 t) (by decide) rfl (fun ls hl => ?_)
          refine lv_goto (tgt := 2) hx hb dX1_work_89 (by decide) ?_
          refine ih (t + 1) (by omega) vs2 (fun e he x hx => ?_) H locs hP hD hS ls (lv_sub hl [0, 2, 3] rfl)
          by_cases e1 : e = t
          · rw [e1]; exact c2 x hx
          · exact c1 e (by omega) x hx
        | succ k2 ih2 =>
          intro x hx0 vs2 c1 c2 H locs hP hD hS ls hl
          have hxn : x < n := by omega
          have hcx := hc x hxn
          refine lv_iload_n hx hb dX1_work_9 rfl (lv_at hl 0 rfl) ?_
          refine lv_aload_n hx hb dX1_work_10 rfl (lv_at hl 2 rfl) ?_
          refine va_get (D := (dC, dI)) (ci := 1) (v := .int (nI n)) (C := RX1) (T := TX1) (N := 8) hx hb hts hiw hown hK hP 0 rfl rfl 1 (by decide) hf_33 (fun _ h9 => h9) rfl dX1_work_11 ?_
          refine lv_icmp_ge (tgt := 86) hx hb dX1_work_14 (by decide) (fun h14 => absurd h14 (nI_ge (by omega) (by omega))) (fun h14 => ?_)
          have fin : ∀ v : Int32, v = vv wv lo cf tf t x → ∀ (ls : Array Slot) (e4 : Int32), lv_has ls 5 [(4, .int e4), (3, .int (nI x)), (2, .int (nI t)), (0, .ref (a 0)), (1, .int (nI d))] → W p l e (headSpec wsX1_work (({ frames := 3, cells := 0, slots := 0, locals := 67 }) : Room)).room s m ([.ref (a 0), .int (nI d)] : List Value).toArray below meth c H locs 0 0 (MQ below (va_Qv (fun vs1 : Nat → Int32 => Vok n wv lo cf tf d vs1) (fun vs1 => WQ dC dI (GT cI cZ cA) A (MW cI cZ a th n wv lo cf tf vs1 nr)) A) ([.ref (a 0), .int (nI d)] : List Value).toArray s 0 0 A) (F0 m 79 ls [.int v, .int (nI (400 * t + x)), .ref (a 5)]) := by
            intro v hv ls e4 hl
            refine ga_iast hx hb hK hP hD hS 5 0 rfl rfl (400 * t + x) (by omega) (by decide) rfl (ws' := MW cI cZ a th n wv lo cf tf (upd vs2 (400 * t + x) v) nr) rfl dX1_work_79 (fun H locs hP hD hS => ?_)
            refine lv_iinc (v := nI (x + 1)) (lv' := [(3, .int (nI (x + 1))), (4, .int e4), (2, .int (nI t)), (0, .ref (a 0)), (1, .int (nI d))]) hx hb dX1_work_80 hl (k := 1) rfl (nI_1 x) (by decide) rfl (fun ls hl => ?_)
            refine lv_goto (tgt := 9) hx hb dX1_work_83 (by decide) ?_
            have hpp := wk_put hn4 hxn c1 c2 hv
            exact ih2 (x + 1) (by omega) _ hpp.1 hpp.2 H locs hP hD hS ls (lv_sub hl [0, 2, 3, 4] rfl)
          refine lv_aload_n hx hb dX1_work_17 rfl (lv_at hl 2 rfl) ?_
          refine va_get (D := (dC, dI)) (ci := 1) (v := .ref (a 2)) (C := RX1) (T := TX1) (N := 8) hx hb hts hiw hown hK hP 0 rfl rfl 3 (by decide) hf_13 (fun _ h9 => h9) rfl dX1_work_18 ?_
          refine lv_iload_n hx hb dX1_work_21 rfl (lv_at hl 0 rfl) ?_
          refine ga_zald hx hb hK hP 2 1 rfl rfl x (v := lo x) rfl (by omega) (by decide) dX1_work_22 ?_
          refine lv_if_eq (tgt := 32) hx hb dX1_work_23 (by decide) (fun h23 => ?_) (fun h23 => ?_)
          · refine lv_iconst (v := 0) hx hb dX1_work_32 (by decide) ?_
            refine lv_istore (lv' := [(4, .int 0), (3, .int (nI x)), (2, .int (nI t)), (0, .ref (a 0)), (1, .int (nI d))]) hx hb dX1_work_33 hl (by decide) rfl (fun ls hl => ?_)
            refine lv_aload_n hx hb dX1_work_35 rfl (lv_at hl 3 rfl) ?_
            refine va_get (D := (dC, dI)) (ci := 1) (v := .ref (a 5)) (C := RX1) (T := TX1) (N := 8) hx hb hts hiw hown hK hP 0 rfl rfl 6 (by decide) hf_23 (fun _ h9 => h9) rfl dX1_work_36 ?_
            refine lv_sipush (v := 400) hx hb dX1_work_39 (by decide) ?_
            refine lv_iload_n hx hb dX1_work_42 rfl (lv_at hl 2 rfl) ?_
            refine lv_imul hx hb dX1_work_43 ?_
            refine ga_is (y := nI (400 * t)) (by rw [show (400 : Int32) = nI 400 from rfl, pk_mul]) ?_
            refine lv_iload_n hx hb dX1_work_44 rfl (lv_at hl 1 rfl) ?_
            refine lv_iadd hx hb dX1_work_45 ?_
            refine ga_is (y := nI (400 * t + x)) (nI_add _ _) ?_
            refine lv_aload_n hx hb dX1_work_46 rfl (lv_at hl 3 rfl) ?_
            refine va_get (D := (dC, dI)) (ci := 1) (v := .ref (a 3)) (C := RX1) (T := TX1) (N := 8) hx hb hts hiw hown hK hP 0 rfl rfl 4 (by decide) hf_17 (fun _ h9 => h9) rfl dX1_work_47 ?_
            refine lv_iload_n hx hb dX1_work_50 rfl (lv_at hl 1 rfl) ?_
            refine ga_iald hx hb hK hP 3 0 rfl rfl x (v := nI (cf x)) rfl (by omega) (by decide) dX1_work_51 ?_
            refine lv_if_ne (tgt := 60) hx hb dX1_work_52 (by decide) (fun h52 => ?_) (fun h52 => ?_)
            · have hc0 : 0 < cf x := Nat.pos_of_ne_zero (fun z => h52 (by rw [z]; rfl))
              refine lv_iload_n hx hb dX1_work_60 rfl (lv_at hl 2 rfl) ?_
              refine lv_if_ne (tgt := 73) hx hb dX1_work_61 (by decide) (fun h61 => ?_) (fun h61 => ?_)
              · obtain ⟨t2, rfl⟩ : ∃ k, t = k + 1 := Nat.exists_eq_succ_of_ne_zero (fun z => h61 (by rw [z]; rfl))
                refine lv_aload_n hx hb dX1_work_73 rfl (lv_at hl 3 rfl) ?_
                refine lv_iload_n hx hb dX1_work_74 rfl (lv_at hl 1 rfl) ?_
                refine lv_iload_n hx hb dX1_work_75 rfl (lv_at hl 2 rfl) ?_
                refine W.callR (r := gm tf (fun y => vs2 (400 * t2 + y)) x (cf x - 1)) (W.runV (As := [.int (nI x), .int (nI (t2 + 1))]) (rest := [.int (nI (400 * (t2 + 1) + x)), .ref (a 5)]) ⟨hx, hb, hml, hown, hts⟩ (kX1_greatest l dC dI cI cZ cA a th n wv lo cf tf vs2 nr x t2 (by omega) (by omega) hcx hc0 (fun j hj => by have := htt x hxn j hj; omega)) (cwV 2 hts gX1_work_X1_greatest rfl rfl rfl (by decide +kernel) ⟨Nat.le_of_ble_eq_true rfl, Nat.le_of_ble_eq_true rfl⟩) ⟨blindR, va_recv hK hP (ci := 1) (q0 := 0) rfl rfl, preR hP hK⟩ rfl rfl hl.1 rfl (lv_room (Nat.le_of_ble_eq_true rfl)) dX1_work_76 ⟨Nat.zero_le _, Nat.zero_le _⟩) ?_
                refine W.eq (g2 := F0 m 79 ls [.int (gm tf (fun y => vs2 (400 * t2 + y)) x (cf x - 1)), .int (nI (400 * (t2 + 1) + x)), .ref (a 5)]) rfl ?_
                refine fin _ ?_ ls 0 (lv_sub hl [0, 1, 2, 3, 4] rfl)
                show _ = if cf x = 0 then _ else gm tf (vv wv lo cf tf t2) x (cf x - 1)
                rw [if_neg (by omega)]
                exact gm_congr _ (fun j hj => c1 t2 (by omega) _ (htt x hxn j (by omega)))
              · obtain rfl : t = 0 := (nI_eq (by omega) (by decide)).mp h61
                refine lv_aload_n hx hb dX1_work_64 rfl (lv_at hl 3 rfl) ?_
                refine va_get (D := (dC, dI)) (ci := 1) (v := .ref (a 1)) (C := RX1) (T := TX1) (N := 8) hx hb hts hiw hown hK hP 0 rfl rfl 2 (by decide) hf_7 (fun _ h9 => h9) rfl dX1_work_65 ?_
                refine lv_iload_n hx hb dX1_work_68 rfl (lv_at hl 1 rfl) ?_
                refine ga_iald hx hb hK hP 1 0 rfl rfl x (v := wv x) rfl (by omega) (by decide) dX1_work_69 ?_
                refine lv_goto (tgt := 79) hx hb dX1_work_70 (by decide) ?_
                refine fin _ ?_ ls 0 (lv_sub hl [0, 1, 2, 3, 4] rfl)
                show _ = if cf x = 0 then _ else wv x
                rw [if_neg (by omega)]
            · have hc0 : cf x = 0 := (nI_eq (by omega) (by decide)).mp h52
              refine lv_iload hx hb dX1_work_55 (lv_at hl 0 rfl) ?_
              refine lv_goto (tgt := 79) hx hb dX1_work_57 (by decide) ?_
              refine fin _ ?_ ls 0 (lv_sub hl [0, 1, 2, 3, 4] rfl)
              rw [vv_end hc0, if_pos h23]
          · refine lv_sipush (v := (-1000)) hx hb dX1_work_26 (by decide) ?_
            refine lv_goto (tgt := 33) hx hb dX1_work_29 (by decide) ?_
            refine lv_istore (lv' := [(4, .int (-1000)), (3, .int (nI x)), (2, .int (nI t)), (0, .ref (a 0)), (1, .int (nI d))]) hx hb dX1_work_33 hl (by decide) rfl (fun ls hl => ?_)
            refine lv_aload_n hx hb dX1_work_35 rfl (lv_at hl 3 rfl) ?_
            refine va_get (D := (dC, dI)) (ci := 1) (v := .ref (a 5)) (C := RX1) (T := TX1) (N := 8) hx hb hts hiw hown hK hP 0 rfl rfl 6 (by decide) hf_23 (fun _ h9 => h9) rfl dX1_work_36 ?_
            refine lv_sipush (v := 400) hx hb dX1_work_39 (by decide) ?_
            refine lv_iload_n hx hb dX1_work_42 rfl (lv_at hl 2 rfl) ?_
            refine lv_imul hx hb dX1_work_43 ?_
            refine ga_is (y := nI (400 * t)) (by rw [show (400 : Int32) = nI 400 from rfl, pk_mul]) ?_
            refine lv_iload_n hx hb dX1_work_44 rfl (lv_at hl 1 rfl) ?_
            refine lv_iadd hx hb dX1_work_45 ?_
            refine ga_is (y := nI (400 * t + x)) (nI_add _ _) ?_
            refine lv_aload_n hx hb dX1_work_46 rfl (lv_at hl 3 rfl) ?_
            refine va_get (D := (dC, dI)) (ci := 1) (v := .ref (a 3)) (C := RX1) (T := TX1) (N := 8) hx hb hts hiw hown hK hP 0 rfl rfl 4 (by decide) hf_17 (fun _ h9 => h9) rfl dX1_work_47 ?_
            refine lv_iload_n hx hb dX1_work_50 rfl (lv_at hl 1 rfl) ?_
            refine ga_iald hx hb hK hP 3 0 rfl rfl x (v := nI (cf x)) rfl (by omega) (by decide) dX1_work_51 ?_
            refine lv_if_ne (tgt := 60) hx hb dX1_work_52 (by decide) (fun h52 => ?_) (fun h52 => ?_)
            · have hc0 : 0 < cf x := Nat.pos_of_ne_zero (fun z => h52 (by rw [z]; rfl))
              refine lv_iload_n hx hb dX1_work_60 rfl (lv_at hl 2 rfl) ?_
              refine lv_if_ne (tgt := 73) hx hb dX1_work_61 (by decide) (fun h61 => ?_) (fun h61 => ?_)
              · obtain ⟨t2, rfl⟩ : ∃ k, t = k + 1 := Nat.exists_eq_succ_of_ne_zero (fun z => h61 (by rw [z]; rfl))
                refine lv_aload_n hx hb dX1_work_73 rfl (lv_at hl 3 rfl) ?_
                refine lv_iload_n hx hb dX1_work_74 rfl (lv_at hl 1 rfl) ?_
                refine lv_iload_n hx hb dX1_work_75 rfl (lv_at hl 2 rfl) ?_
                refine W.callR (r := gm tf (fun y => vs2 (400 * t2 + y)) x (cf x - 1)) (W.runV (As := [.int (nI x), .int (nI (t2 + 1))]) (rest := [.int (nI (400 * (t2 + 1) + x)), .ref (a 5)]) ⟨hx, hb, hml, hown, hts⟩ (kX1_greatest l dC dI cI cZ cA a th n wv lo cf tf vs2 nr x t2 (by omega) (by omega) hcx hc0 (fun j hj => by have := htt x hxn j hj; omega)) (cwV 2 hts gX1_work_X1_greatest rfl rfl rfl (by decide +kernel) ⟨Nat.le_of_ble_eq_true rfl, Nat.le_of_ble_eq_true rfl⟩) ⟨blindR, va_recv hK hP (ci := 1) (q0 := 0) rfl rfl, preR hP hK⟩ rfl rfl hl.1 rfl (lv_room (Nat.le_of_ble_eq_true rfl)) dX1_work_76 ⟨Nat.zero_le _, Nat.zero_le _⟩) ?_
                refine W.eq (g2 := F0 m 79 ls [.int (gm tf (fun y => vs2 (400 * t2 + y)) x (cf x - 1)), .int (nI (400 * (t2 + 1) + x)), .ref (a 5)]) rfl ?_
                refine fin _ ?_ ls (-1000) (lv_sub hl [0, 1, 2, 3, 4] rfl)
                show _ = if cf x = 0 then _ else gm tf (vv wv lo cf tf t2) x (cf x - 1)
                rw [if_neg (by omega)]
                exact gm_congr _ (fun j hj => c1 t2 (by omega) _ (htt x hxn j (by omega)))
              · obtain rfl : t = 0 := (nI_eq (by omega) (by decide)).mp h61
                refine lv_aload_n hx hb dX1_work_64 rfl (lv_at hl 3 rfl) ?_
                refine va_get (D := (dC, dI)) (ci := 1) (v := .ref (a 1)) (C := RX1) (T := TX1) (N := 8) hx hb hts hiw hown hK hP 0 rfl rfl 2 (by decide) hf_7 (fun _ h9 => h9) rfl dX1_work_65 ?_
                refine lv_iload_n hx hb dX1_work_68 rfl (lv_at hl 1 rfl) ?_
                refine ga_iald hx hb hK hP 1 0 rfl rfl x (v := wv x) rfl (by omega) (by decide) dX1_work_69 ?_
                refine lv_goto (tgt := 79) hx hb dX1_work_70 (by decide) ?_
                refine fin _ ?_ ls (-1000) (lv_sub hl [0, 1, 2, 3, 4] rfl)
                show _ = if cf x = 0 then _ else wv x
                rw [if_neg (by omega)]
            · have hc0 : cf x = 0 := (nI_eq (by omega) (by decide)).mp h52
              refine lv_iload hx hb dX1_work_55 (lv_at hl 0 rfl) ?_
              refine lv_goto (tgt := 79) hx hb dX1_work_57 (by decide) ?_
              refine fin _ ?_ ls (-1000) (lv_sub hl [0, 1, 2, 3, 4] rfl)
              rw [vv_end hc0, if_neg h23]
      exact inner n 0 (by omega) vs1 h1 (fun y hy => absurd hy (by omega)) H locs hP hD hS ls (lv_sub hl [0, 1, 2, 3] rfl)
  exact outer (d + 1) 0 (by omega) vs (fun e he => absurd he (by omega)) s.heap [] hP hD hS ls (lv_sub hl [0, 1, 2] rfl)
