set_option maxHeartbeats 4000000 in
set_option maxRecDepth 100000 in
theorem law_node {p : Program} {l : Launch} {e : Env} {s : State} {m : MethodId} {below : List Frame} {meth : Method} {c : Code} {b L : Nat} {xs : Nat → Int32} (hL : L ≤ 2049) (C0 : lw_At p s m meth c b L xs) (hl9 : l.stackTraces = false) {dC : Nat → ClassId} {dI : Nat → Nat → Nat} {cI cZ cA cJ : ClassId} {sa : Nat → Nat} (hK : va_K (dC, dI) vwCl (GJ cI cZ cA cJ) s) (hE : EX sa (fun q : Nat => s.heap.size ≤ q) s s.heap) {a ad : Nat → Nat} {o i : Nat} (hi : i + 4 ≤ L) {cells slots : Nat} (hcs : cells + 1 ≤ 601024 ∧ slots + 6 ≤ 7293000) (nx : LNx p l e s m below meth c b dC dI cI cZ cA cJ a ad o i (cells + 1) (slots + 6)) (n am rf mk : Nat) (wv lo : Nat → Int32) (cf tf : Nat → Nat) (T : Nat → Nat → Int32) (mt : Nat → Nat) (im : Nat → Int32) (th : Nat) (vs : Nat → Int32) (nr : Nat → Nat) (fo : Nat → Int64) (hI : LInv n am rf mk wv lo cf tf T mt im) (H : Heap) (locs : List Loc) (hP : va_P (dC, dI) vwCl ((XW cI cZ cA a n am rf mk wv lo cf tf T mt im ++ OW o cJ fo) ++ MW cI cZ ad th n wv lo cf tf vs nr) H) (hD : va_D (fun q : Nat => s.heap.size ≤ q) ((XW cI cZ cA a n am rf mk wv lo cf tf T mt im ++ OW o cJ fo) ++ MW cI cZ ad th n wv lo cf tf vs nr)) (hS : va_S (fun q : Nat => s.heap.size ≤ q) s.heap H locs) (ls : Array Slot) (hl : lv_has ls 7 [(0, .ref b), (1, .ref (a 0)), (2, .ref (ad 0)), (3, .ref o), (4, .int (nI i))]) : W p l e room_1 s m #[Value.ref b] below meth c H locs cells slots (lw_Z below #[Value.ref b] s) (F0 m 116 ls []) := by
  obtain ⟨hx, hb, hr, hml, hown, hts0, hX, hbl, hlocks, hgv⟩ := C0
  have hts : ∀ w ∈ wsL_law, w.before #[Value.ref b] s = true := fun w h => hts0 w (wsL_law_in w h)
  have hown : s.vm.findClass RL = some m.cls := hown
  have hA : ∀ q : Nat, s.heap.size ≤ q → (fun q : Nat => s.heap.size ≤ q) q := fun _ h => h
  have hbA : ¬ (fun q : Nat => s.heap.size ≤ q) b := Nat.not_le.mpr hbl
  have hKg := hK.sub (tys' := GT cI cZ cA) [0, 1, 2] rfl
  obtain ⟨hG, hT, hM, hsm⟩ := id hI
  obtain ⟨hn4, hwr, hc, htt, hlo, hz0⟩ := id hG
  have hc0 : cells + 0 ≤ room_1.cells ∧ slots + 0 ≤ room_1.slots := ⟨by show cells + 0 ≤ 601024; omega, by show slots + 0 ≤ 7293000; omega⟩
  have hc1 : cells + 1 ≤ room_1.cells ∧ slots + 6 ≤ room_1.slots := hcs
  have hc2 : cells + 1 + 0 ≤ room_1.cells ∧ slots + 6 + 0 ≤ room_1.slots := hcs
  rcases iw_or (xs (i + 1)) with hv | hv
  · refine lv_aload_n hx hb dL_law_116 rfl (lv_at hl 1 rfl) ?_
    refine lv_aload_n hx hb dL_law_117 rfl (lv_at hl 0 rfl) ?_
    refine lv_iload hx hb dL_law_118 (lv_at hl 4 rfl) ?_
    refine lv_iconst (v := 1) hx hb dL_law_120 (by decide) ?_
    refine lv_iadd hx hb dL_law_121 ?_
    refine ga_is (y := nI (i + 1)) (nI_add i 1) ?_
    refine ga_sld hx hb hX hbl hbA hS (i + 1) (by omega) hL dL_law_122 ?_
    refine lv_aload_n hx hb dL_law_123 rfl (lv_at hl 0 rfl) ?_
    refine lv_iload hx hb dL_law_124 (lv_at hl 4 rfl) ?_
    refine lv_iconst (v := 2) hx hb dL_law_126 (by decide) ?_
    refine lv_iadd hx hb dL_law_127 ?_
    refine ga_is (y := nI (i + 2)) (nI_add i 2) ?_
    refine ga_sld hx hb hX hbl hbA hS (i + 2) (by omega) hL dL_law_128 ?_
    suffices cont : W p l e room_1 s m #[Value.ref b] below meth c H locs cells slots (lw_Z below #[Value.ref b] s) (F0 m 137 ls [.int (bz (xs (i + 2))), .int (xs (i + 1)), .ref (a 0)]) by
      refine lv_if_eq (tgt := 136) hx hb dL_law_129 (by decide) (fun hz9 => ?_) (fun hz9 => ?_)
      · refine lv_iconst (v := 0) hx hb dL_law_136 (by decide) ?_
        rw [show bz (xs (i + 2)) = 0 from if_pos hz9] at cont
        exact cont
      · refine lv_iconst (v := 1) hx hb dL_law_132 (by decide) ?_
        refine lv_goto (tgt := 137) hx hb dL_law_133 (by decide) ?_
        rw [show bz (xs (i + 2)) = 1 from if_neg hz9] at cont
        exact cont
    refine lv_aload_n hx hb dL_law_137 rfl (lv_at hl 3 rfl) ?_
    refine va_calli (A0 := (fun q : Nat => s.heap.size ≤ q)) (H0 := s.heap) (vx_runSW (As := [.ref (a 0), .int (xs (i + 1)), .int (bz (xs (i + 2))), .ref o]) (rest := []) ⟨hx, hb, hml, hown, hts⟩ (nL_node_w l hl9 dC dI cI cZ cA cJ a o fo H.size sa n am rf mk wv lo cf tf T mt im (xs (i + 1)) (bz (xs (i + 2))) hv) (vx_cwSW 4 hts gL_law_L_node rfl rfl rfl (by decide +kernel) ⟨Nat.le_of_ble_eq_true rfl, Nat.le_of_ble_eq_true rfl⟩) ⟨blindTP, preTP (pL hP) hK ((hE.kept hS.2.1).narrow (fun _ h => h.elim))⟩ rfl rfl hl.1 rfl (lv_room (Nat.le_of_ble_eq_true rfl)) dL_law_138 hc1) hS (fun q _ h => Nat.le_trans hS.1 h) (fun q h => Nat.le_trans hS.1 h) (fun r_ u tS H1 locs htS hvm hw hB9 hz1 hk1 hS => ?_)
    have hP := keepN hP hk1
    generalize H1 = H at hP hS ⊢
    obtain rfl : r_ = 1 := hw
    refine W.eq (g2 := F0 m 141 ls [.int 1]) rfl ?_
    refine lv_istore (lv' := [(5, .int 1), (0, .ref b), (1, .ref (a 0)), (2, .ref (ad 0)), (3, .ref o), (4, .int (nI i))]) hx hb dL_law_141 hl (by decide) rfl (fun ls hl => ?_)
    refine lv_aload_n hx hb dL_law_143 rfl (lv_at hl 3 rfl) ?_
    refine lv_aload_n hx hb dL_law_144 rfl (lv_at hl 1 rfl) ?_
    refine lv_iload hx hb dL_law_145 (lv_at hl 5 rfl) ?_
    refine lv_iconst (v := 1) hx hb dL_law_147 (by decide) ?_
    refine lv_iadd hx hb dL_law_148 ?_
    refine ga_is (y := nI (i + 1)) (nI_add i 1) ?_
    refine ga_sld hx hb hX hbl hbA hS (i + 1) (by omega) hL dL_law_149 ?_
    refine lv_aload_n hx hb dL_law_150 rfl (lv_at hl 1 rfl) ?_
    refine lv_iload hx hb dL_law_151 (lv_at hl 5 rfl) ?_
    refine lv_iconst (v := 2) hx hb dL_law_153 (by decide) ?_
    refine lv_iadd hx hb dL_law_154 ?_
    refine ga_is (y := nI (i + 2)) (nI_add i 2) ?_
    refine ga_sld hx hb hX hbl hbA hS (i + 2) (by omega) hL dL_law_155 ?_
    suffices cont : W p l e room_1 s m #[Value.ref b] below meth c H locs (cells + 1) (slots + 6) (lw_Z below #[Value.ref b] s) (F0 m 164 ls [.int (bz (xs (i + 2))), .int (xs (i + 1)), .ref (ad 0)]) by
      refine lv_if_eq (tgt := 163) hx hb dL_law_156 (by decide) (fun hz9 => ?_) (fun hz9 => ?_)
      · refine lv_iconst (v := 0) hx hb dL_law_163 (by decide) ?_
        rw [show bz (xs (i + 2)) = 0 from if_pos hz9] at cont
        exact cont
      · refine lv_iconst (v := 1) hx hb dL_law_159 (by decide) ?_
        refine lv_goto (tgt := 164) hx hb dL_law_160 (by decide) ?_
        rw [show bz (xs (i + 2)) = 1 from if_neg hz9] at cont
        exact cont
    have hF := freeR hD hS hA
    refine va_calli (va_runV (As := [.int (xs (i + 1)), .int (bz (xs (i + 2)))]) (rest := []) ⟨hx, hb, hml, hown, hts⟩ (kX1_node_w l dC dI cI cZ cA ad H.size th n wv lo cf tf vs nr (xs (i + 1)) (bz (xs (i + 2))) hv) (cwV 2 hts gL_law_X1_node rfl rfl rfl (by decide +kernel) ⟨Nat.le_of_ble_eq_true rfl, Nat.le_of_ble_eq_true rfl⟩) ⟨blindW, va_recv hKg (pR hP) (ci := 1) (q0 := 0) rfl rfl, preW (pR hP) hKg (dR hD)⟩ rfl rfl hl.1 rfl (lv_room (Nat.le_of_ble_eq_true rfl)) dL_law_164 hc2) hS (fun q _ h => hF q h) hF (fun r_ u tS H1 locs htS hvm hw hB9 hz1 hk1 hS => ?_)
    obtain ⟨hP1, hK1, hD1⟩ := hB9
    rw [htS] at hP1
    obtain ⟨hP, hD⟩ := joinR hP hD hk1 hF hP1 hD1
    generalize H1 = H at hP hS ⊢
    obtain rfl : r_ = 0 := hw
    have hP : va_P (dC, dI) vwCl ((XW cI cZ cA a n am rf mk wv lo cf tf T mt im ++ OW o cJ fo) ++ MW cI cZ ad 1 n wv lo cf tf vs nr) H := hP
    have hD : va_D (fun q : Nat => s.heap.size ≤ q) ((XW cI cZ cA a n am rf mk wv lo cf tf T mt im ++ OW o cJ fo) ++ MW cI cZ ad 1 n wv lo cf tf vs nr) := hD
    refine W.eq (g2 := F0 m 167 ls [.int 0]) rfl ?_
    refine lv_istore (lv' := [(6, .int 0), (5, .int 1), (0, .ref b), (1, .ref (a 0)), (2, .ref (ad 0)), (3, .ref o), (4, .int (nI i))]) hx hb dL_law_167 hl (by decide) rfl (fun ls hl => ?_)
    refine lv_aload_n hx hb dL_law_169 rfl (lv_at hl 4 rfl) ?_
    refine W.callR (r := nI 1) (W.runV (As := []) (rest := []) ⟨hx, hb, hml, hown, hts⟩ (kX1_thrown l dC dI cI cZ cA ad 1 n wv lo cf tf vs nr ) (cwV 0 hts gL_law_X1_thrown rfl rfl rfl (by decide +kernel) ⟨Nat.le_of_ble_eq_true rfl, Nat.le_of_ble_eq_true rfl⟩) ⟨blindR, va_recv hKg (pR hP) (ci := 1) (q0 := 0) rfl rfl, preR (pR hP) hKg⟩ rfl rfl hl.1 rfl (lv_room (Nat.le_of_ble_eq_true rfl)) dL_law_170 hc2) ?_
    refine W.eq (g2 := F0 m 173 ls [.int (nI 1)]) rfl ?_
    refine lv_iload hx hb dL_law_173 (lv_at hl 1 rfl) ?_
    refine lv_icmp_eq (tgt := 180) hx hb dL_law_175 (by decide) (fun hq1 => ?_) (fun hq1 => absurd (show nI 1 = 1 from rfl) hq1)
    refine lv_iload hx hb dL_law_180 (lv_at hl 1 rfl) ?_
    refine lv_if_ne (tgt := 197) hx hb dL_law_182 (by decide) (fun hq2 => ?_) (fun hq2 => absurd hq2 (by decide))
    refine lv_goto (tgt := 927) hx hb dL_law_197 (by decide) ?_
    exact nx n am rf mk wv lo cf tf T mt im 1 vs nr fo (hI) H locs hP hD hS ls (lv_sub hl [2, 3, 4, 5, 6] rfl)
  · by_cases hfull : n = 400
    · refine lv_aload_n hx hb dL_law_116 rfl (lv_at hl 1 rfl) ?_
      refine lv_aload_n hx hb dL_law_117 rfl (lv_at hl 0 rfl) ?_
      refine lv_iload hx hb dL_law_118 (lv_at hl 4 rfl) ?_
      refine lv_iconst (v := 1) hx hb dL_law_120 (by decide) ?_
      refine lv_iadd hx hb dL_law_121 ?_
      refine ga_is (y := nI (i + 1)) (nI_add i 1) ?_
      refine ga_sld hx hb hX hbl hbA hS (i + 1) (by omega) hL dL_law_122 ?_
      refine lv_aload_n hx hb dL_law_123 rfl (lv_at hl 0 rfl) ?_
      refine lv_iload hx hb dL_law_124 (lv_at hl 4 rfl) ?_
      refine lv_iconst (v := 2) hx hb dL_law_126 (by decide) ?_
      refine lv_iadd hx hb dL_law_127 ?_
      refine ga_is (y := nI (i + 2)) (nI_add i 2) ?_
      refine ga_sld hx hb hX hbl hbA hS (i + 2) (by omega) hL dL_law_128 ?_
      suffices cont : W p l e room_1 s m #[Value.ref b] below meth c H locs cells slots (lw_Z below #[Value.ref b] s) (F0 m 137 ls [.int (bz (xs (i + 2))), .int (xs (i + 1)), .ref (a 0)]) by
        refine lv_if_eq (tgt := 136) hx hb dL_law_129 (by decide) (fun hz9 => ?_) (fun hz9 => ?_)
        · refine lv_iconst (v := 0) hx hb dL_law_136 (by decide) ?_
          rw [show bz (xs (i + 2)) = 0 from if_pos hz9] at cont
          exact cont
        · refine lv_iconst (v := 1) hx hb dL_law_132 (by decide) ?_
          refine lv_goto (tgt := 137) hx hb dL_law_133 (by decide) ?_
          rw [show bz (xs (i + 2)) = 1 from if_neg hz9] at cont
          exact cont
      refine lv_aload_n hx hb dL_law_137 rfl (lv_at hl 3 rfl) ?_
      refine va_calli (A0 := (fun q : Nat => s.heap.size ≤ q)) (H0 := s.heap) (vx_runSW (As := [.ref (a 0), .int (xs (i + 1)), .int (bz (xs (i + 2))), .ref o]) (rest := []) ⟨hx, hb, hml, hown, hts⟩ (nL_node_f l hl9 dC dI cI cZ cA cJ a o fo H.size sa n am rf mk wv lo cf tf T mt im (xs (i + 1)) (bz (xs (i + 2))) hv hfull) (vx_cwSW 4 hts gL_law_L_node rfl rfl rfl (by decide +kernel) ⟨Nat.le_of_ble_eq_true rfl, Nat.le_of_ble_eq_true rfl⟩) ⟨blindTP, preTP (pL hP) hK ((hE.kept hS.2.1).narrow (fun _ h => h.elim))⟩ rfl rfl hl.1 rfl (lv_room (Nat.le_of_ble_eq_true rfl)) dL_law_138 hc1) hS (fun q _ h => Nat.le_trans hS.1 h) (fun q h => Nat.le_trans hS.1 h) (fun r_ u tS H1 locs htS hvm hw hB9 hz1 hk1 hS => ?_)
      have hP := keepN hP hk1
      generalize H1 = H at hP hS ⊢
      obtain rfl : r_ = 2 := hw
      refine W.eq (g2 := F0 m 141 ls [.int 2]) rfl ?_
      refine lv_istore (lv' := [(5, .int 2), (0, .ref b), (1, .ref (a 0)), (2, .ref (ad 0)), (3, .ref o), (4, .int (nI i))]) hx hb dL_law_141 hl (by decide) rfl (fun ls hl => ?_)
      refine lv_aload_n hx hb dL_law_143 rfl (lv_at hl 3 rfl) ?_
      refine lv_aload_n hx hb dL_law_144 rfl (lv_at hl 1 rfl) ?_
      refine lv_iload hx hb dL_law_145 (lv_at hl 5 rfl) ?_
      refine lv_iconst (v := 1) hx hb dL_law_147 (by decide) ?_
      refine lv_iadd hx hb dL_law_148 ?_
      refine ga_is (y := nI (i + 1)) (nI_add i 1) ?_
      refine ga_sld hx hb hX hbl hbA hS (i + 1) (by omega) hL dL_law_149 ?_
      refine lv_aload_n hx hb dL_law_150 rfl (lv_at hl 1 rfl) ?_
      refine lv_iload hx hb dL_law_151 (lv_at hl 5 rfl) ?_
      refine lv_iconst (v := 2) hx hb dL_law_153 (by decide) ?_
      refine lv_iadd hx hb dL_law_154 ?_
      refine ga_is (y := nI (i + 2)) (nI_add i 2) ?_
      refine ga_sld hx hb hX hbl hbA hS (i + 2) (by omega) hL dL_law_155 ?_
      suffices cont : W p l e room_1 s m #[Value.ref b] below meth c H locs (cells + 1) (slots + 6) (lw_Z below #[Value.ref b] s) (F0 m 164 ls [.int (bz (xs (i + 2))), .int (xs (i + 1)), .ref (ad 0)]) by
        refine lv_if_eq (tgt := 163) hx hb dL_law_156 (by decide) (fun hz9 => ?_) (fun hz9 => ?_)
        · refine lv_iconst (v := 0) hx hb dL_law_163 (by decide) ?_
          rw [show bz (xs (i + 2)) = 0 from if_pos hz9] at cont
          exact cont
        · refine lv_iconst (v := 1) hx hb dL_law_159 (by decide) ?_
          refine lv_goto (tgt := 164) hx hb dL_law_160 (by decide) ?_
          rw [show bz (xs (i + 2)) = 1 from if_neg hz9] at cont
          exact cont
      have hF := freeR hD hS hA
      refine va_calli (va_runV (As := [.int (xs (i + 1)), .int (bz (xs (i + 2)))]) (rest := []) ⟨hx, hb, hml, hown, hts⟩ (kX1_node_f l dC dI cI cZ cA ad H.size th n wv lo cf tf vs nr (xs (i + 1)) (bz (xs (i + 2))) hv hfull) (cwV 2 hts gL_law_X1_node rfl rfl rfl (by decide +kernel) ⟨Nat.le_of_ble_eq_true rfl, Nat.le_of_ble_eq_true rfl⟩) ⟨blindW, va_recv hKg (pR hP) (ci := 1) (q0 := 0) rfl rfl, preW (pR hP) hKg (dR hD)⟩ rfl rfl hl.1 rfl (lv_room (Nat.le_of_ble_eq_true rfl)) dL_law_164 hc2) hS (fun q _ h => hF q h) hF (fun r_ u tS H1 locs htS hvm hw hB9 hz1 hk1 hS => ?_)
      obtain ⟨hP1, hK1, hD1⟩ := hB9
      rw [htS] at hP1
      obtain ⟨hP, hD⟩ := joinR hP hD hk1 hF hP1 hD1
      generalize H1 = H at hP hS ⊢
      obtain rfl : r_ = 0 := hw
      have hP : va_P (dC, dI) vwCl ((XW cI cZ cA a n am rf mk wv lo cf tf T mt im ++ OW o cJ fo) ++ MW cI cZ ad 2 n wv lo cf tf vs nr) H := hP
      have hD : va_D (fun q : Nat => s.heap.size ≤ q) ((XW cI cZ cA a n am rf mk wv lo cf tf T mt im ++ OW o cJ fo) ++ MW cI cZ ad 2 n wv lo cf tf vs nr) := hD
      refine W.eq (g2 := F0 m 167 ls [.int 0]) rfl ?_
      refine lv_istore (lv' := [(6, .int 0), (5, .int 2), (0, .ref b), (1, .ref (a 0)), (2, .ref (ad 0)), (3, .ref o), (4, .int (nI i))]) hx hb dL_law_167 hl (by decide) rfl (fun ls hl => ?_)
      refine lv_aload_n hx hb dL_law_169 rfl (lv_at hl 4 rfl) ?_
      refine W.callR (r := nI 2) (W.runV (As := []) (rest := []) ⟨hx, hb, hml, hown, hts⟩ (kX1_thrown l dC dI cI cZ cA ad 2 n wv lo cf tf vs nr ) (cwV 0 hts gL_law_X1_thrown rfl rfl rfl (by decide +kernel) ⟨Nat.le_of_ble_eq_true rfl, Nat.le_of_ble_eq_true rfl⟩) ⟨blindR, va_recv hKg (pR hP) (ci := 1) (q0 := 0) rfl rfl, preR (pR hP) hKg⟩ rfl rfl hl.1 rfl (lv_room (Nat.le_of_ble_eq_true rfl)) dL_law_170 hc2) ?_
      refine W.eq (g2 := F0 m 173 ls [.int (nI 2)]) rfl ?_
      refine lv_iload hx hb dL_law_173 (lv_at hl 1 rfl) ?_
      refine lv_icmp_eq (tgt := 180) hx hb dL_law_175 (by decide) (fun hq1 => ?_) (fun hq1 => absurd (show nI 2 = 2 from rfl) hq1)
      refine lv_iload hx hb dL_law_180 (lv_at hl 1 rfl) ?_
      refine lv_if_ne (tgt := 197) hx hb dL_law_182 (by decide) (fun hq2 => ?_) (fun hq2 => absurd hq2 (by decide))
      refine lv_goto (tgt := 927) hx hb dL_law_197 (by decide) ?_
      exact nx n am rf mk wv lo cf tf T mt im 2 vs nr fo (hI) H locs hP hD hS ls (lv_sub hl [2, 3, 4, 5, 6] rfl)
    · have hn9 : n < 400 := by omega
      refine lv_aload_n hx hb dL_law_116 rfl (lv_at hl 1 rfl) ?_
      refine lv_aload_n hx hb dL_law_117 rfl (lv_at hl 0 rfl) ?_
      refine lv_iload hx hb dL_law_118 (lv_at hl 4 rfl) ?_
      refine lv_iconst (v := 1) hx hb dL_law_120 (by decide) ?_
      refine lv_iadd hx hb dL_law_121 ?_
      refine ga_is (y := nI (i + 1)) (nI_add i 1) ?_
      refine ga_sld hx hb hX hbl hbA hS (i + 1) (by omega) hL dL_law_122 ?_
      refine lv_aload_n hx hb dL_law_123 rfl (lv_at hl 0 rfl) ?_
      refine lv_iload hx hb dL_law_124 (lv_at hl 4 rfl) ?_
      refine lv_iconst (v := 2) hx hb dL_law_126 (by decide) ?_
      refine lv_iadd hx hb dL_law_127 ?_
      refine ga_is (y := nI (i + 2)) (nI_add i 2) ?_
      refine ga_sld hx hb hX hbl hbA hS (i + 2) (by omega) hL dL_law_128 ?_
      suffices cont : W p l e room_1 s m #[Value.ref b] below meth c H locs cells slots (lw_Z below #[Value.ref b] s) (F0 m 137 ls [.int (bz (xs (i + 2))), .int (xs (i + 1)), .ref (a 0)]) by
        refine lv_if_eq (tgt := 136) hx hb dL_law_129 (by decide) (fun hz9 => ?_) (fun hz9 => ?_)
        · refine lv_iconst (v := 0) hx hb dL_law_136 (by decide) ?_
          rw [show bz (xs (i + 2)) = 0 from if_pos hz9] at cont
          exact cont
        · refine lv_iconst (v := 1) hx hb dL_law_132 (by decide) ?_
          refine lv_goto (tgt := 137) hx hb dL_law_133 (by decide) ?_
          rw [show bz (xs (i + 2)) = 1 from if_neg hz9] at cont
          exact cont
      refine lv_aload_n hx hb dL_law_137 rfl (lv_at hl 3 rfl) ?_
      have hF := freeL hD hS hA
      refine va_calli (vx_runSW (As := [.ref (a 0), .int (xs (i + 1)), .int (bz (xs (i + 2))), .ref o]) (rest := []) ⟨hx, hb, hml, hown, hts⟩ (kL_node l dC dI cI cZ cA cJ a o fo H.size n am rf mk wv lo cf tf T mt im (xs (i + 1)) (bz (xs (i + 2))) hn9 hv (bz_01 _)) (vx_cwSW 4 hts gL_law_L_node rfl rfl rfl (by decide +kernel) ⟨Nat.le_of_ble_eq_true rfl, Nat.le_of_ble_eq_true rfl⟩) ⟨blindW, preW (pL hP) hK (dL hD)⟩ rfl rfl hl.1 rfl (lv_room (Nat.le_of_ble_eq_true rfl)) dL_law_138 hc0) hS (fun q _ h => hF q h) hF (fun r_ u tS H1 locs htS hvm hw hB9 hz1 hk1 hS => ?_)
      obtain ⟨hP1, hK1, hD1⟩ := hB9
      rw [htS] at hP1
      obtain ⟨hP, hD⟩ := joinL hP hD hk1 hF hP1 hD1
      generalize H1 = H at hP hS ⊢
      obtain rfl : r_ = 0 := hw
      have hP : va_P (dC, dI) vwCl ((XW cI cZ cA a (n + 1) am 0 mk (upd wv n (xs (i + 1))) (upd lo n (bz (xs (i + 2)))) cf tf T mt im ++ OW o cJ (vp_updL fo 0 (nI n).toInt64)) ++ MW cI cZ ad th n wv lo cf tf vs nr) H := hP
      have hD : va_D (fun q : Nat => s.heap.size ≤ q) ((XW cI cZ cA a (n + 1) am 0 mk (upd wv n (xs (i + 1))) (upd lo n (bz (xs (i + 2)))) cf tf T mt im ++ OW o cJ (vp_updL fo 0 (nI n).toInt64)) ++ MW cI cZ ad th n wv lo cf tf vs nr) := hD
      refine W.eq (g2 := F0 m 141 ls [.int 0]) rfl ?_
      refine lv_istore (lv' := [(5, .int 0), (0, .ref b), (1, .ref (a 0)), (2, .ref (ad 0)), (3, .ref o), (4, .int (nI i))]) hx hb dL_law_141 hl (by decide) rfl (fun ls hl => ?_)
      refine lv_aload_n hx hb dL_law_143 rfl (lv_at hl 3 rfl) ?_
      refine lv_aload_n hx hb dL_law_144 rfl (lv_at hl 1 rfl) ?_
      refine lv_iload hx hb dL_law_145 (lv_at hl 5 rfl) ?_
      refine lv_iconst (v := 1) hx hb dL_law_147 (by decide) ?_
      refine lv_iadd hx hb dL_law_148 ?_
      refine ga_is (y := nI (i + 1)) (nI_add i 1) ?_
      refine ga_sld hx hb hX hbl hbA hS (i + 1) (by omega) hL dL_law_149 ?_
      refine lv_aload_n hx hb dL_law_150 rfl (lv_at hl 1 rfl) ?_
      refine lv_iload hx hb dL_law_151 (lv_at hl 5 rfl) ?_
      refine lv_iconst (v := 2) hx hb dL_law_153 (by decide) ?_
      refine lv_iadd hx hb dL_law_154 ?_
      refine ga_is (y := nI (i + 2)) (nI_add i 2) ?_
      refine ga_sld hx hb hX hbl hbA hS (i + 2) (by omega) hL dL_law_155 ?_
      suffices cont : W p l e room_1 s m #[Value.ref b] below meth c H locs cells slots (lw_Z below #[Value.ref b] s) (F0 m 164 ls [.int (bz (xs (i + 2))), .int (xs (i + 1)), .ref (ad 0)]) by
        refine lv_if_eq (tgt := 163) hx hb dL_law_156 (by decide) (fun hz9 => ?_) (fun hz9 => ?_)
        · refine lv_iconst (v := 0) hx hb dL_law_163 (by decide) ?_
          rw [show bz (xs (i + 2)) = 0 from if_pos hz9] at cont
          exact cont
        · refine lv_iconst (v := 1) hx hb dL_law_159 (by decide) ?_
          refine lv_goto (tgt := 164) hx hb dL_law_160 (by decide) ?_
          rw [show bz (xs (i + 2)) = 1 from if_neg hz9] at cont
          exact cont
      have hF := freeR hD hS hA
      refine va_calli (va_runV (As := [.int (xs (i + 1)), .int (bz (xs (i + 2)))]) (rest := []) ⟨hx, hb, hml, hown, hts⟩ (kX1_node l dC dI cI cZ cA ad H.size th n wv lo cf tf vs nr (xs (i + 1)) (bz (xs (i + 2))) hn9 hv (bz_01 _) (hz0 n (Nat.le_refl _))) (cwV 2 hts gL_law_X1_node rfl rfl rfl (by decide +kernel) ⟨Nat.le_of_ble_eq_true rfl, Nat.le_of_ble_eq_true rfl⟩) ⟨blindW, va_recv hKg (pR hP) (ci := 1) (q0 := 0) rfl rfl, preW (pR hP) hKg (dR hD)⟩ rfl rfl hl.1 rfl (lv_room (Nat.le_of_ble_eq_true rfl)) dL_law_164 hc0) hS (fun q _ h => hF q h) hF (fun r_ u tS H1 locs htS hvm hw hB9 hz1 hk1 hS => ?_)
      obtain ⟨hP1, hK1, hD1⟩ := hB9
      rw [htS] at hP1
      obtain ⟨hP, hD⟩ := joinR hP hD hk1 hF hP1 hD1
      generalize H1 = H at hP hS ⊢
      obtain rfl : r_ = nI n := hw
      have hP : va_P (dC, dI) vwCl ((XW cI cZ cA a (n + 1) am 0 mk (upd wv n (xs (i + 1))) (upd lo n (bz (xs (i + 2)))) cf tf T mt im ++ OW o cJ (vp_updL fo 0 (nI n).toInt64)) ++ MW cI cZ ad 0 (n + 1) (upd wv n (xs (i + 1))) (upd lo n (bz (xs (i + 2)))) cf tf vs nr) H := hP
      have hD : va_D (fun q : Nat => s.heap.size ≤ q) ((XW cI cZ cA a (n + 1) am 0 mk (upd wv n (xs (i + 1))) (upd lo n (bz (xs (i + 2)))) cf tf T mt im ++ OW o cJ (vp_updL fo 0 (nI n).toInt64)) ++ MW cI cZ ad 0 (n + 1) (upd wv n (xs (i + 1))) (upd lo n (bz (xs (i + 2)))) cf tf vs nr) := hD
      refine W.eq (g2 := F0 m 167 ls [.int (nI n)]) rfl ?_
      refine lv_istore (lv' := [(6, .int (nI n)), (5, .int 0), (0, .ref b), (1, .ref (a 0)), (2, .ref (ad 0)), (3, .ref o), (4, .int (nI i))]) hx hb dL_law_167 hl (by decide) rfl (fun ls hl => ?_)
      refine lv_aload_n hx hb dL_law_169 rfl (lv_at hl 4 rfl) ?_
      refine W.callR (r := nI 0) (W.runV (As := []) (rest := []) ⟨hx, hb, hml, hown, hts⟩ (kX1_thrown l dC dI cI cZ cA ad 0 (n + 1) (upd wv n (xs (i + 1))) (upd lo n (bz (xs (i + 2)))) cf tf vs nr ) (cwV 0 hts gL_law_X1_thrown rfl rfl rfl (by decide +kernel) ⟨Nat.le_of_ble_eq_true rfl, Nat.le_of_ble_eq_true rfl⟩) ⟨blindR, va_recv hKg (pR hP) (ci := 1) (q0 := 0) rfl rfl, preR (pR hP) hKg⟩ rfl rfl hl.1 rfl (lv_room (Nat.le_of_ble_eq_true rfl)) dL_law_170 hc0) ?_
      refine W.eq (g2 := F0 m 173 ls [.int (nI 0)]) rfl ?_
      refine lv_iload hx hb dL_law_173 (lv_at hl 1 rfl) ?_
      refine lv_icmp_eq (tgt := 180) hx hb dL_law_175 (by decide) (fun hq1 => ?_) (fun hq1 => absurd (show nI 0 = 0 from rfl) hq1)
      refine lv_iload hx hb dL_law_180 (lv_at hl 1 rfl) ?_
      refine lv_if_ne (tgt := 197) hx hb dL_law_182 (by decide) (fun hq2 => absurd (rfl : (0 : Int32) = 0) hq2) (fun hq2 => ?_)
      refine lv_aload_n hx hb dL_law_185 rfl (lv_at hl 5 rfl) ?_
      refine lv_iconst (v := 0) hx hb dL_law_186 (by decide) ?_
      refine va_lald hx hb hK (pL hP) 16 3 OW_at rfl in_0 dL_law_187 ?_
      rw [sb_cl0, pk_uLs]
      refine lv_iload hx hb dL_law_188 (lv_at hl 0 rfl) ?_
      refine lv_i2l hx hb dL_law_190 rfl ?_
      refine W.lcmp hx hb dL_law_191 ?_
      rw [lcmp_self]
      refine lv_if_eq (tgt := 197) hx hb dL_law_192 (by decide) (fun hq3 => ?_) (fun hq3 => absurd (rfl : (0 : Int32) = 0) hq3)
      refine lv_goto (tgt := 927) hx hb dL_law_197 (by decide) ?_
      refine W.widen (k := cells + 1) (n := slots + 6) (by omega) (by omega) ?_
      exact nx (n + 1) am 0 mk (upd wv n (xs (i + 1))) (upd lo n (bz (xs (i + 2)))) cf tf T mt im 0 vs nr (vp_updL fo 0 (nI n).toInt64) (hI.node hn9 hv (bz_01 _)) H locs hP hD hS ls (lv_sub hl [2, 3, 4, 5, 6] rfl)
set_option maxHeartbeats 4000000 in
set_option maxRecDepth 100000 in
theorem law_move {p : Program} {l : Launch} {e : Env} {s : State} {m : MethodId} {below : List Frame} {meth : Method} {c : Code} {b L : Nat} {xs : Nat → Int32} (hL : L ≤ 2049) (C0 : lw_At p s m meth c b L xs) (hl9 : l.stackTraces = false) {dC : Nat → ClassId} {dI : Nat → Nat → Nat} {cI cZ cA cJ : ClassId} {sa : Nat → Nat} (hK : va_K (dC, dI) vwCl (GJ cI cZ cA cJ) s) (hE : EX sa (fun q : Nat => s.heap.size ≤ q) s s.heap) {a ad : Nat → Nat} {o i : Nat} (hi : i + 4 ≤ L) {cells slots : Nat} (hcs : cells + 1 ≤ 601024 ∧ slots + 6 ≤ 7293000) (nx : LNx p l e s m below meth c b dC dI cI cZ cA cJ a ad o i (cells + 1) (slots + 6)) (n am rf mk : Nat) (wv lo : Nat → Int32) (cf tf : Nat → Nat) (T : Nat → Nat → Int32) (mt : Nat → Nat) (im : Nat → Int32) (th : Nat) (vs : Nat → Int32) (nr : Nat → Nat) (fo : Nat → Int64) (hI : LInv n am rf mk wv lo cf tf T mt im) (H : Heap) (locs : List Loc) (hP : va_P (dC, dI) vwCl ((XW cI cZ cA a n am rf mk wv lo cf tf T mt im ++ OW o cJ fo) ++ MW cI cZ ad th n wv lo cf tf vs nr) H) (hD : va_D (fun q : Nat => s.heap.size ≤ q) ((XW cI cZ cA a n am rf mk wv lo cf tf T mt im ++ OW o cJ fo) ++ MW cI cZ ad th n wv lo cf tf vs nr)) (hS : va_S (fun q : Nat => s.heap.size ≤ q) s.heap H locs) (ls : Array Slot) (hl : lv_has ls 7 [(0, .ref b), (1, .ref (a 0)), (2, .ref (ad 0)), (3, .ref o), (4, .int (nI i))]) : W p l e room_1 s m #[Value.ref b] below meth c H locs cells slots (lw_Z below #[Value.ref b] s) (F0 m 200 ls []) := by
  obtain ⟨hx, hb, hr, hml, hown, hts0, hX, hbl, hlocks, hgv⟩ := C0
  have hts : ∀ w ∈ wsL_law, w.before #[Value.ref b] s = true := fun w h => hts0 w (wsL_law_in w h)
  have hown : s.vm.findClass RL = some m.cls := hown
  have hA : ∀ q : Nat, s.heap.size ≤ q → (fun q : Nat => s.heap.size ≤ q) q := fun _ h => h
  have hbA : ¬ (fun q : Nat => s.heap.size ≤ q) b := Nat.not_le.mpr hbl
  have hKg := hK.sub (tys' := GT cI cZ cA) [0, 1, 2] rfl
  obtain ⟨hG, hT, hM, hsm⟩ := id hI
  obtain ⟨hn4, hwr, hc, htt, hlo, hz0⟩ := id hG
  have hc0 : cells + 0 ≤ room_1.cells ∧ slots + 0 ≤ room_1.slots := ⟨by show cells + 0 ≤ 601024; omega, by show slots + 0 ≤ 7293000; omega⟩
  have hc1 : cells + 1 ≤ room_1.cells ∧ slots + 6 ≤ room_1.slots := hcs
  have hc2 : cells + 1 + 0 ≤ room_1.cells ∧ slots + 6 + 0 ≤ room_1.slots := hcs
  rcases isn_in (x := (xs (i + 1))) (n := n) (by omega) with ⟨-, p1, hp1, hv1⟩ | ⟨hno, -⟩
  · rcases isn_in (x := (xs (i + 2))) (n := n) (by omega) with ⟨-, p2, hp2, hv2⟩ | ⟨hno, -⟩
    · have hc1p := hc p1 hp1
      by_cases hfull : cf p1 = 6
      · refine lv_aload_n hx hb dL_law_200 rfl (lv_at hl 1 rfl) ?_
        refine lv_aload_n hx hb dL_law_201 rfl (lv_at hl 0 rfl) ?_
        refine lv_iload hx hb dL_law_202 (lv_at hl 4 rfl) ?_
        refine lv_iconst (v := 1) hx hb dL_law_204 (by decide) ?_
        refine lv_iadd hx hb dL_law_205 ?_
        refine ga_is (y := nI (i + 1)) (nI_add i 1) ?_
        refine ga_sld hx hb hX hbl hbA hS (i + 1) (by omega) hL dL_law_206 ?_
        refine ga_is (y := nI p1) (hv1) ?_
        refine lv_aload_n hx hb dL_law_207 rfl (lv_at hl 0 rfl) ?_
        refine lv_iload hx hb dL_law_208 (lv_at hl 4 rfl) ?_
        refine lv_iconst (v := 2) hx hb dL_law_210 (by decide) ?_
        refine lv_iadd hx hb dL_law_211 ?_
        refine ga_is (y := nI (i + 2)) (nI_add i 2) ?_
        refine ga_sld hx hb hX hbl hbA hS (i + 2) (by omega) hL dL_law_212 ?_
        refine ga_is (y := nI p2) (hv2) ?_
        refine lv_aload_n hx hb dL_law_213 rfl (lv_at hl 3 rfl) ?_
        refine va_calli (A0 := (fun q : Nat => s.heap.size ≤ q)) (H0 := s.heap) (vx_runSW (As := [.ref (a 0), .int (nI p1), .int (nI p2), .ref o]) (rest := []) ⟨hx, hb, hml, hown, hts⟩ (nL_move_f l hl9 dC dI cI cZ cA cJ a o fo H.size sa n am rf mk wv lo cf tf T mt im p1 p2 hn4 hp1 hp2 hfull) (vx_cwSW 4 hts gL_law_L_move rfl rfl rfl (by decide +kernel) ⟨Nat.le_of_ble_eq_true rfl, Nat.le_of_ble_eq_true rfl⟩) ⟨blindTP, preTP (pL hP) hK ((hE.kept hS.2.1).narrow (fun _ h => h.elim))⟩ rfl rfl hl.1 rfl (lv_room (Nat.le_of_ble_eq_true rfl)) dL_law_214 hc1) hS (fun q _ h => Nat.le_trans hS.1 h) (fun q h => Nat.le_trans hS.1 h) (fun r_ u tS H1 locs htS hvm hw hB9 hz1 hk1 hS => ?_)
        have hP := keepN hP hk1
        generalize H1 = H at hP hS ⊢
        obtain rfl : r_ = 2 := hw
        refine W.eq (g2 := F0 m 217 ls [.int 2]) rfl ?_
        refine lv_istore (lv' := [(5, .int 2), (0, .ref b), (1, .ref (a 0)), (2, .ref (ad 0)), (3, .ref o), (4, .int (nI i))]) hx hb dL_law_217 hl (by decide) rfl (fun ls hl => ?_)
        refine lv_aload_n hx hb dL_law_219 rfl (lv_at hl 3 rfl) ?_
        refine lv_aload_n hx hb dL_law_220 rfl (lv_at hl 1 rfl) ?_
        refine lv_iload hx hb dL_law_221 (lv_at hl 5 rfl) ?_
        refine lv_iconst (v := 1) hx hb dL_law_223 (by decide) ?_
        refine lv_iadd hx hb dL_law_224 ?_
        refine ga_is (y := nI (i + 1)) (nI_add i 1) ?_
        refine ga_sld hx hb hX hbl hbA hS (i + 1) (by omega) hL dL_law_225 ?_
        refine ga_is (y := nI p1) (hv1) ?_
        refine lv_aload_n hx hb dL_law_226 rfl (lv_at hl 1 rfl) ?_
        refine lv_iload hx hb dL_law_227 (lv_at hl 5 rfl) ?_
        refine lv_iconst (v := 2) hx hb dL_law_229 (by decide) ?_
        refine lv_iadd hx hb dL_law_230 ?_
        refine ga_is (y := nI (i + 2)) (nI_add i 2) ?_
        refine ga_sld hx hb hX hbl hbA hS (i + 2) (by omega) hL dL_law_231 ?_
        refine ga_is (y := nI p2) (hv2) ?_
        have hF := freeR hD hS hA
        refine va_calli (va_runV (As := [.int (nI p1), .int (nI p2)]) (rest := []) ⟨hx, hb, hml, hown, hts⟩ (kX1_move_f l dC dI cI cZ cA ad H.size th n wv lo cf tf vs nr p1 p2 hn4 hp1 hp2 hfull) (cwV 2 hts gL_law_X1_move rfl rfl rfl (by decide +kernel) ⟨Nat.le_of_ble_eq_true rfl, Nat.le_of_ble_eq_true rfl⟩) ⟨blindW, va_recv hKg (pR hP) (ci := 1) (q0 := 0) rfl rfl, preW (pR hP) hKg (dR hD)⟩ rfl rfl hl.1 rfl (lv_room (Nat.le_of_ble_eq_true rfl)) dL_law_232 hc2) hS (fun q _ h => hF q h) hF (fun r_ u tS H1 locs htS hvm hw hB9 hz1 hk1 hS => ?_)
        obtain ⟨hP1, hK1, hD1⟩ := hB9
        rw [htS] at hP1
        obtain ⟨hP, hD⟩ := joinR hP hD hk1 hF hP1 hD1
        generalize H1 = H at hP hS ⊢
        obtain rfl : r_ = 0 := hw
        have hP : va_P (dC, dI) vwCl ((XW cI cZ cA a n am rf mk wv lo cf tf T mt im ++ OW o cJ fo) ++ MW cI cZ ad 2 n wv lo cf tf vs nr) H := hP
        have hD : va_D (fun q : Nat => s.heap.size ≤ q) ((XW cI cZ cA a n am rf mk wv lo cf tf T mt im ++ OW o cJ fo) ++ MW cI cZ ad 2 n wv lo cf tf vs nr) := hD
        refine W.eq (g2 := F0 m 235 ls [.int 0]) rfl ?_
        refine lv_istore (lv' := [(6, .int 0), (5, .int 2), (0, .ref b), (1, .ref (a 0)), (2, .ref (ad 0)), (3, .ref o), (4, .int (nI i))]) hx hb dL_law_235 hl (by decide) rfl (fun ls hl => ?_)
        refine lv_aload_n hx hb dL_law_237 rfl (lv_at hl 4 rfl) ?_
        refine W.callR (r := nI 2) (W.runV (As := []) (rest := []) ⟨hx, hb, hml, hown, hts⟩ (kX1_thrown l dC dI cI cZ cA ad 2 n wv lo cf tf vs nr ) (cwV 0 hts gL_law_X1_thrown rfl rfl rfl (by decide +kernel) ⟨Nat.le_of_ble_eq_true rfl, Nat.le_of_ble_eq_true rfl⟩) ⟨blindR, va_recv hKg (pR hP) (ci := 1) (q0 := 0) rfl rfl, preR (pR hP) hKg⟩ rfl rfl hl.1 rfl (lv_room (Nat.le_of_ble_eq_true rfl)) dL_law_238 hc2) ?_
        refine W.eq (g2 := F0 m 241 ls [.int (nI 2)]) rfl ?_
        refine lv_iload hx hb dL_law_241 (lv_at hl 1 rfl) ?_
        refine lv_icmp_eq (tgt := 248) hx hb dL_law_243 (by decide) (fun hq1 => ?_) (fun hq1 => absurd (show nI 2 = 2 from rfl) hq1)
        refine lv_iload hx hb dL_law_248 (lv_at hl 1 rfl) ?_
        refine lv_if_ne (tgt := 265) hx hb dL_law_250 (by decide) (fun hq2 => ?_) (fun hq2 => absurd hq2 (by decide))
        refine lv_goto (tgt := 927) hx hb dL_law_265 (by decide) ?_
        exact nx n am rf mk wv lo cf tf T mt im 2 vs nr fo (hI) H locs hP hD hS ls (lv_sub hl [2, 3, 4, 5, 6] rfl)
      · have hlt : cf p1 < 6 := by omega
        refine lv_aload_n hx hb dL_law_200 rfl (lv_at hl 1 rfl) ?_
        refine lv_aload_n hx hb dL_law_201 rfl (lv_at hl 0 rfl) ?_
        refine lv_iload hx hb dL_law_202 (lv_at hl 4 rfl) ?_
        refine lv_iconst (v := 1) hx hb dL_law_204 (by decide) ?_
        refine lv_iadd hx hb dL_law_205 ?_
        refine ga_is (y := nI (i + 1)) (nI_add i 1) ?_
        refine ga_sld hx hb hX hbl hbA hS (i + 1) (by omega) hL dL_law_206 ?_
        refine ga_is (y := nI p1) (hv1) ?_
        refine lv_aload_n hx hb dL_law_207 rfl (lv_at hl 0 rfl) ?_
        refine lv_iload hx hb dL_law_208 (lv_at hl 4 rfl) ?_
        refine lv_iconst (v := 2) hx hb dL_law_210 (by decide) ?_
        refine lv_iadd hx hb dL_law_211 ?_
        refine ga_is (y := nI (i + 2)) (nI_add i 2) ?_
        refine ga_sld hx hb hX hbl hbA hS (i + 2) (by omega) hL dL_law_212 ?_
        refine ga_is (y := nI p2) (hv2) ?_
        refine lv_aload_n hx hb dL_law_213 rfl (lv_at hl 3 rfl) ?_
        have hF := freeL hD hS hA
        refine va_calli (vx_runSW (As := [.ref (a 0), .int (nI p1), .int (nI p2), .ref o]) (rest := []) ⟨hx, hb, hml, hown, hts⟩ (kL_move l dC dI cI cZ cA cJ a o fo H.size n am rf mk wv lo cf tf T mt im p1 p2 hn4 hp1 hp2 hlt) (vx_cwSW 4 hts gL_law_L_move rfl rfl rfl (by decide +kernel) ⟨Nat.le_of_ble_eq_true rfl, Nat.le_of_ble_eq_true rfl⟩) ⟨blindW, preW (pL hP) hK (dL hD)⟩ rfl rfl hl.1 rfl (lv_room (Nat.le_of_ble_eq_true rfl)) dL_law_214 hc0) hS (fun q _ h => hF q h) hF (fun r_ u tS H1 locs htS hvm hw hB9 hz1 hk1 hS => ?_)
        obtain ⟨hP1, hK1, hD1⟩ := hB9
        rw [htS] at hP1
        obtain ⟨hP, hD⟩ := joinL hP hD hk1 hF hP1 hD1
        generalize H1 = H at hP hS ⊢
        obtain rfl : r_ = 0 := hw
        have hP : va_P (dC, dI) vwCl ((XW cI cZ cA a n (am + 1) 0 mk wv lo (va_up cf p1 (cf p1 + 1)) (va_up tf (p1 * 6 + cf p1) p2) T mt im ++ OW o cJ (vp_updL fo 0 (nI (cf p1)).toInt64)) ++ MW cI cZ ad th n wv lo cf tf vs nr) H := hP
        have hD : va_D (fun q : Nat => s.heap.size ≤ q) ((XW cI cZ cA a n (am + 1) 0 mk wv lo (va_up cf p1 (cf p1 + 1)) (va_up tf (p1 * 6 + cf p1) p2) T mt im ++ OW o cJ (vp_updL fo 0 (nI (cf p1)).toInt64)) ++ MW cI cZ ad th n wv lo cf tf vs nr) := hD
        refine W.eq (g2 := F0 m 217 ls [.int 0]) rfl ?_
        refine lv_istore (lv' := [(5, .int 0), (0, .ref b), (1, .ref (a 0)), (2, .ref (ad 0)), (3, .ref o), (4, .int (nI i))]) hx hb dL_law_217 hl (by decide) rfl (fun ls hl => ?_)
        refine lv_aload_n hx hb dL_law_219 rfl (lv_at hl 3 rfl) ?_
        refine lv_aload_n hx hb dL_law_220 rfl (lv_at hl 1 rfl) ?_
        refine lv_iload hx hb dL_law_221 (lv_at hl 5 rfl) ?_
        refine lv_iconst (v := 1) hx hb dL_law_223 (by decide) ?_
        refine lv_iadd hx hb dL_law_224 ?_
        refine ga_is (y := nI (i + 1)) (nI_add i 1) ?_
        refine ga_sld hx hb hX hbl hbA hS (i + 1) (by omega) hL dL_law_225 ?_
        refine ga_is (y := nI p1) (hv1) ?_
        refine lv_aload_n hx hb dL_law_226 rfl (lv_at hl 1 rfl) ?_
        refine lv_iload hx hb dL_law_227 (lv_at hl 5 rfl) ?_
        refine lv_iconst (v := 2) hx hb dL_law_229 (by decide) ?_
        refine lv_iadd hx hb dL_law_230 ?_
        refine ga_is (y := nI (i + 2)) (nI_add i 2) ?_
        refine ga_sld hx hb hX hbl hbA hS (i + 2) (by omega) hL dL_law_231 ?_
        refine ga_is (y := nI p2) (hv2) ?_
        have hF := freeR hD hS hA
        refine va_calli (va_runV (As := [.int (nI p1), .int (nI p2)]) (rest := []) ⟨hx, hb, hml, hown, hts⟩ (kX1_move l dC dI cI cZ cA ad H.size th n wv lo cf tf vs nr p1 p2 hn4 hp1 hp2 hlt) (cwV 2 hts gL_law_X1_move rfl rfl rfl (by decide +kernel) ⟨Nat.le_of_ble_eq_true rfl, Nat.le_of_ble_eq_true rfl⟩) ⟨blindW, va_recv hKg (pR hP) (ci := 1) (q0 := 0) rfl rfl, preW (pR hP) hKg (dR hD)⟩ rfl rfl hl.1 rfl (lv_room (Nat.le_of_ble_eq_true rfl)) dL_law_232 hc0) hS (fun q _ h => hF q h) hF (fun r_ u tS H1 locs htS hvm hw hB9 hz1 hk1 hS => ?_)
        obtain ⟨hP1, hK1, hD1⟩ := hB9
        rw [htS] at hP1
        obtain ⟨hP, hD⟩ := joinR hP hD hk1 hF hP1 hD1
        generalize H1 = H at hP hS ⊢
        obtain rfl : r_ = nI (cf p1) := hw
        have hP : va_P (dC, dI) vwCl ((XW cI cZ cA a n (am + 1) 0 mk wv lo (va_up cf p1 (cf p1 + 1)) (va_up tf (p1 * 6 + cf p1) p2) T mt im ++ OW o cJ (vp_updL fo 0 (nI (cf p1)).toInt64)) ++ MW cI cZ ad 0 n wv lo (va_up cf p1 (cf p1 + 1)) (va_up tf (p1 * 6 + cf p1) p2) vs nr) H := hP
        have hD : va_D (fun q : Nat => s.heap.size ≤ q) ((XW cI cZ cA a n (am + 1) 0 mk wv lo (va_up cf p1 (cf p1 + 1)) (va_up tf (p1 * 6 + cf p1) p2) T mt im ++ OW o cJ (vp_updL fo 0 (nI (cf p1)).toInt64)) ++ MW cI cZ ad 0 n wv lo (va_up cf p1 (cf p1 + 1)) (va_up tf (p1 * 6 + cf p1) p2) vs nr) := hD
        refine W.eq (g2 := F0 m 235 ls [.int (nI (cf p1))]) rfl ?_
        refine lv_istore (lv' := [(6, .int (nI (cf p1))), (5, .int 0), (0, .ref b), (1, .ref (a 0)), (2, .ref (ad 0)), (3, .ref o), (4, .int (nI i))]) hx hb dL_law_235 hl (by decide) rfl (fun ls hl => ?_)
        refine lv_aload_n hx hb dL_law_237 rfl (lv_at hl 4 rfl) ?_
        refine W.callR (r := nI 0) (W.runV (As := []) (rest := []) ⟨hx, hb, hml, hown, hts⟩ (kX1_thrown l dC dI cI cZ cA ad 0 n wv lo (va_up cf p1 (cf p1 + 1)) (va_up tf (p1 * 6 + cf p1) p2) vs nr ) (cwV 0 hts gL_law_X1_thrown rfl rfl rfl (by decide +kernel) ⟨Nat.le_of_ble_eq_true rfl, Nat.le_of_ble_eq_true rfl⟩) ⟨blindR, va_recv hKg (pR hP) (ci := 1) (q0 := 0) rfl rfl, preR (pR hP) hKg⟩ rfl rfl hl.1 rfl (lv_room (Nat.le_of_ble_eq_true rfl)) dL_law_238 hc0) ?_
        refine W.eq (g2 := F0 m 241 ls [.int (nI 0)]) rfl ?_
        refine lv_iload hx hb dL_law_241 (lv_at hl 1 rfl) ?_
        refine lv_icmp_eq (tgt := 248) hx hb dL_law_243 (by decide) (fun hq1 => ?_) (fun hq1 => absurd (show nI 0 = 0 from rfl) hq1)
        refine lv_iload hx hb dL_law_248 (lv_at hl 1 rfl) ?_
        refine lv_if_ne (tgt := 265) hx hb dL_law_250 (by decide) (fun hq2 => absurd (rfl : (0 : Int32) = 0) hq2) (fun hq2 => ?_)
        refine lv_aload_n hx hb dL_law_253 rfl (lv_at hl 5 rfl) ?_
        refine lv_iconst (v := 0) hx hb dL_law_254 (by decide) ?_
        refine va_lald hx hb hK (pL hP) 16 3 OW_at rfl in_0 dL_law_255 ?_
        rw [sb_cl0, pk_uLs]
        refine lv_iload hx hb dL_law_256 (lv_at hl 0 rfl) ?_
        refine lv_i2l hx hb dL_law_258 rfl ?_
        refine W.lcmp hx hb dL_law_259 ?_
        rw [lcmp_self]
        refine lv_if_eq (tgt := 265) hx hb dL_law_260 (by decide) (fun hq3 => ?_) (fun hq3 => absurd (rfl : (0 : Int32) = 0) hq3)
        refine lv_goto (tgt := 927) hx hb dL_law_265 (by decide) ?_
        refine W.widen (k := cells + 1) (n := slots + 6) (by omega) (by omega) ?_
        exact nx n (am + 1) 0 mk wv lo (va_up cf p1 (cf p1 + 1)) (va_up tf (p1 * 6 + cf p1) p2) T mt im 0 vs nr (vp_updL fo 0 (nI (cf p1)).toInt64) (hI.move hp1 hp2 hlt) H locs hP hD hS ls (lv_sub hl [2, 3, 4, 5, 6] rfl)
    · refine lv_aload_n hx hb dL_law_200 rfl (lv_at hl 1 rfl) ?_
      refine lv_aload_n hx hb dL_law_201 rfl (lv_at hl 0 rfl) ?_
      refine lv_iload hx hb dL_law_202 (lv_at hl 4 rfl) ?_
      refine lv_iconst (v := 1) hx hb dL_law_204 (by decide) ?_
      refine lv_iadd hx hb dL_law_205 ?_
      refine ga_is (y := nI (i + 1)) (nI_add i 1) ?_
      refine ga_sld hx hb hX hbl hbA hS (i + 1) (by omega) hL dL_law_206 ?_
      refine lv_aload_n hx hb dL_law_207 rfl (lv_at hl 0 rfl) ?_
      refine lv_iload hx hb dL_law_208 (lv_at hl 4 rfl) ?_
      refine lv_iconst (v := 2) hx hb dL_law_210 (by decide) ?_
      refine lv_iadd hx hb dL_law_211 ?_
      refine ga_is (y := nI (i + 2)) (nI_add i 2) ?_
      refine ga_sld hx hb hX hbl hbA hS (i + 2) (by omega) hL dL_law_212 ?_
      refine lv_aload_n hx hb dL_law_213 rfl (lv_at hl 3 rfl) ?_
      refine va_calli (A0 := (fun q : Nat => s.heap.size ≤ q)) (H0 := s.heap) (vx_runSW (As := [.ref (a 0), .int (xs (i + 1)), .int (xs (i + 2)), .ref o]) (rest := []) ⟨hx, hb, hml, hown, hts⟩ (nL_move_n l hl9 dC dI cI cZ cA cJ a o fo H.size sa n am rf mk wv lo cf tf T mt im (xs (i + 1)) (xs (i + 2)) (Or.inr hno)) (vx_cwSW 4 hts gL_law_L_move rfl rfl rfl (by decide +kernel) ⟨Nat.le_of_ble_eq_true rfl, Nat.le_of_ble_eq_true rfl⟩) ⟨blindTP, preTP (pL hP) hK ((hE.kept hS.2.1).narrow (fun _ h => h.elim))⟩ rfl rfl hl.1 rfl (lv_room (Nat.le_of_ble_eq_true rfl)) dL_law_214 hc1) hS (fun q _ h => Nat.le_trans hS.1 h) (fun q h => Nat.le_trans hS.1 h) (fun r_ u tS H1 locs htS hvm hw hB9 hz1 hk1 hS => ?_)
      have hP := keepN hP hk1
      generalize H1 = H at hP hS ⊢
      obtain rfl : r_ = 1 := hw
      refine W.eq (g2 := F0 m 217 ls [.int 1]) rfl ?_
      refine lv_istore (lv' := [(5, .int 1), (0, .ref b), (1, .ref (a 0)), (2, .ref (ad 0)), (3, .ref o), (4, .int (nI i))]) hx hb dL_law_217 hl (by decide) rfl (fun ls hl => ?_)
      refine lv_aload_n hx hb dL_law_219 rfl (lv_at hl 3 rfl) ?_
      refine lv_aload_n hx hb dL_law_220 rfl (lv_at hl 1 rfl) ?_
      refine lv_iload hx hb dL_law_221 (lv_at hl 5 rfl) ?_
      refine lv_iconst (v := 1) hx hb dL_law_223 (by decide) ?_
      refine lv_iadd hx hb dL_law_224 ?_
      refine ga_is (y := nI (i + 1)) (nI_add i 1) ?_
      refine ga_sld hx hb hX hbl hbA hS (i + 1) (by omega) hL dL_law_225 ?_
      refine lv_aload_n hx hb dL_law_226 rfl (lv_at hl 1 rfl) ?_
      refine lv_iload hx hb dL_law_227 (lv_at hl 5 rfl) ?_
      refine lv_iconst (v := 2) hx hb dL_law_229 (by decide) ?_
      refine lv_iadd hx hb dL_law_230 ?_
      refine ga_is (y := nI (i + 2)) (nI_add i 2) ?_
      refine ga_sld hx hb hX hbl hbA hS (i + 2) (by omega) hL dL_law_231 ?_
      have hF := freeR hD hS hA
      refine va_calli (va_runV (As := [.int (xs (i + 1)), .int (xs (i + 2))]) (rest := []) ⟨hx, hb, hml, hown, hts⟩ (kX1_move_n l dC dI cI cZ cA ad H.size th n wv lo cf tf vs nr (xs (i + 1)) (xs (i + 2)) (Or.inr hno)) (cwV 2 hts gL_law_X1_move rfl rfl rfl (by decide +kernel) ⟨Nat.le_of_ble_eq_true rfl, Nat.le_of_ble_eq_true rfl⟩) ⟨blindW, va_recv hKg (pR hP) (ci := 1) (q0 := 0) rfl rfl, preW (pR hP) hKg (dR hD)⟩ rfl rfl hl.1 rfl (lv_room (Nat.le_of_ble_eq_true rfl)) dL_law_232 hc2) hS (fun q _ h => hF q h) hF (fun r_ u tS H1 locs htS hvm hw hB9 hz1 hk1 hS => ?_)
      obtain ⟨hP1, hK1, hD1⟩ := hB9
      rw [htS] at hP1
      obtain ⟨hP, hD⟩ := joinR hP hD hk1 hF hP1 hD1
      generalize H1 = H at hP hS ⊢
      obtain rfl : r_ = 0 := hw
      have hP : va_P (dC, dI) vwCl ((XW cI cZ cA a n am rf mk wv lo cf tf T mt im ++ OW o cJ fo) ++ MW cI cZ ad 1 n wv lo cf tf vs nr) H := hP
      have hD : va_D (fun q : Nat => s.heap.size ≤ q) ((XW cI cZ cA a n am rf mk wv lo cf tf T mt im ++ OW o cJ fo) ++ MW cI cZ ad 1 n wv lo cf tf vs nr) := hD
      refine W.eq (g2 := F0 m 235 ls [.int 0]) rfl ?_
      refine lv_istore (lv' := [(6, .int 0), (5, .int 1), (0, .ref b), (1, .ref (a 0)), (2, .ref (ad 0)), (3, .ref o), (4, .int (nI i))]) hx hb dL_law_235 hl (by decide) rfl (fun ls hl => ?_)
      refine lv_aload_n hx hb dL_law_237 rfl (lv_at hl 4 rfl) ?_
      refine W.callR (r := nI 1) (W.runV (As := []) (rest := []) ⟨hx, hb, hml, hown, hts⟩ (kX1_thrown l dC dI cI cZ cA ad 1 n wv lo cf tf vs nr ) (cwV 0 hts gL_law_X1_thrown rfl rfl rfl (by decide +kernel) ⟨Nat.le_of_ble_eq_true rfl, Nat.le_of_ble_eq_true rfl⟩) ⟨blindR, va_recv hKg (pR hP) (ci := 1) (q0 := 0) rfl rfl, preR (pR hP) hKg⟩ rfl rfl hl.1 rfl (lv_room (Nat.le_of_ble_eq_true rfl)) dL_law_238 hc2) ?_
      refine W.eq (g2 := F0 m 241 ls [.int (nI 1)]) rfl ?_
      refine lv_iload hx hb dL_law_241 (lv_at hl 1 rfl) ?_
      refine lv_icmp_eq (tgt := 248) hx hb dL_law_243 (by decide) (fun hq1 => ?_) (fun hq1 => absurd (show nI 1 = 1 from rfl) hq1)
      refine lv_iload hx hb dL_law_248 (lv_at hl 1 rfl) ?_
      refine lv_if_ne (tgt := 265) hx hb dL_law_250 (by decide) (fun hq2 => ?_) (fun hq2 => absurd hq2 (by decide))
      refine lv_goto (tgt := 927) hx hb dL_law_265 (by decide) ?_
      exact nx n am rf mk wv lo cf tf T mt im 1 vs nr fo (hI) H locs hP hD hS ls (lv_sub hl [2, 3, 4, 5, 6] rfl)
  · refine lv_aload_n hx hb dL_law_200 rfl (lv_at hl 1 rfl) ?_
    refine lv_aload_n hx hb dL_law_201 rfl (lv_at hl 0 rfl) ?_
    refine lv_iload hx hb dL_law_202 (lv_at hl 4 rfl) ?_
    refine lv_iconst (v := 1) hx hb dL_law_204 (by decide) ?_
    refine lv_iadd hx hb dL_law_205 ?_
    refine ga_is (y := nI (i + 1)) (nI_add i 1) ?_
    refine ga_sld hx hb hX hbl hbA hS (i + 1) (by omega) hL dL_law_206 ?_
    refine lv_aload_n hx hb dL_law_207 rfl (lv_at hl 0 rfl) ?_
    refine lv_iload hx hb dL_law_208 (lv_at hl 4 rfl) ?_
    refine lv_iconst (v := 2) hx hb dL_law_210 (by decide) ?_
    refine lv_iadd hx hb dL_law_211 ?_
    refine ga_is (y := nI (i + 2)) (nI_add i 2) ?_
    refine ga_sld hx hb hX hbl hbA hS (i + 2) (by omega) hL dL_law_212 ?_
    refine lv_aload_n hx hb dL_law_213 rfl (lv_at hl 3 rfl) ?_
    refine va_calli (A0 := (fun q : Nat => s.heap.size ≤ q)) (H0 := s.heap) (vx_runSW (As := [.ref (a 0), .int (xs (i + 1)), .int (xs (i + 2)), .ref o]) (rest := []) ⟨hx, hb, hml, hown, hts⟩ (nL_move_n l hl9 dC dI cI cZ cA cJ a o fo H.size sa n am rf mk wv lo cf tf T mt im (xs (i + 1)) (xs (i + 2)) (Or.inl hno)) (vx_cwSW 4 hts gL_law_L_move rfl rfl rfl (by decide +kernel) ⟨Nat.le_of_ble_eq_true rfl, Nat.le_of_ble_eq_true rfl⟩) ⟨blindTP, preTP (pL hP) hK ((hE.kept hS.2.1).narrow (fun _ h => h.elim))⟩ rfl rfl hl.1 rfl (lv_room (Nat.le_of_ble_eq_true rfl)) dL_law_214 hc1) hS (fun q _ h => Nat.le_trans hS.1 h) (fun q h => Nat.le_trans hS.1 h) (fun r_ u tS H1 locs htS hvm hw hB9 hz1 hk1 hS => ?_)
    have hP := keepN hP hk1
    generalize H1 = H at hP hS ⊢
    obtain rfl : r_ = 1 := hw
    refine W.eq (g2 := F0 m 217 ls [.int 1]) rfl ?_
    refine lv_istore (lv' := [(5, .int 1), (0, .ref b), (1, .ref (a 0)), (2, .ref (ad 0)), (3, .ref o), (4, .int (nI i))]) hx hb dL_law_217 hl (by decide) rfl (fun ls hl => ?_)
    refine lv_aload_n hx hb dL_law_219 rfl (lv_at hl 3 rfl) ?_
    refine lv_aload_n hx hb dL_law_220 rfl (lv_at hl 1 rfl) ?_
    refine lv_iload hx hb dL_law_221 (lv_at hl 5 rfl) ?_
    refine lv_iconst (v := 1) hx hb dL_law_223 (by decide) ?_
    refine lv_iadd hx hb dL_law_224 ?_
    refine ga_is (y := nI (i + 1)) (nI_add i 1) ?_
    refine ga_sld hx hb hX hbl hbA hS (i + 1) (by omega) hL dL_law_225 ?_
    refine lv_aload_n hx hb dL_law_226 rfl (lv_at hl 1 rfl) ?_
    refine lv_iload hx hb dL_law_227 (lv_at hl 5 rfl) ?_
    refine lv_iconst (v := 2) hx hb dL_law_229 (by decide) ?_
    refine lv_iadd hx hb dL_law_230 ?_
    refine ga_is (y := nI (i + 2)) (nI_add i 2) ?_
    refine ga_sld hx hb hX hbl hbA hS (i + 2) (by omega) hL dL_law_231 ?_
    have hF := freeR hD hS hA
    refine va_calli (va_runV (As := [.int (xs (i + 1)), .int (xs (i + 2))]) (rest := []) ⟨hx, hb, hml, hown, hts⟩ (kX1_move_n l dC dI cI cZ cA ad H.size th n wv lo cf tf vs nr (xs (i + 1)) (xs (i + 2)) (Or.inl hno)) (cwV 2 hts gL_law_X1_move rfl rfl rfl (by decide +kernel) ⟨Nat.le_of_ble_eq_true rfl, Nat.le_of_ble_eq_true rfl⟩) ⟨blindW, va_recv hKg (pR hP) (ci := 1) (q0 := 0) rfl rfl, preW (pR hP) hKg (dR hD)⟩ rfl rfl hl.1 rfl (lv_room (Nat.le_of_ble_eq_true rfl)) dL_law_232 hc2) hS (fun q _ h => hF q h) hF (fun r_ u tS H1 locs htS hvm hw hB9 hz1 hk1 hS => ?_)
    obtain ⟨hP1, hK1, hD1⟩ := hB9
    rw [htS] at hP1
    obtain ⟨hP, hD⟩ := joinR hP hD hk1 hF hP1 hD1
    generalize H1 = H at hP hS ⊢
    obtain rfl : r_ = 0 := hw
    have hP : va_P (dC, dI) vwCl ((XW cI cZ cA a n am rf mk wv lo cf tf T mt im ++ OW o cJ fo) ++ MW cI cZ ad 1 n wv lo cf tf vs nr) H := hP
    have hD : va_D (fun q : Nat => s.heap.size ≤ q) ((XW cI cZ cA a n am rf mk wv lo cf tf T mt im ++ OW o cJ fo) ++ MW cI cZ ad 1 n wv lo cf tf vs nr) := hD
    refine W.eq (g2 := F0 m 235 ls [.int 0]) rfl ?_
    refine lv_istore (lv' := [(6, .int 0), (5, .int 1), (0, .ref b), (1, .ref (a 0)), (2, .ref (ad 0)), (3, .ref o), (4, .int (nI i))]) hx hb dL_law_235 hl (by decide) rfl (fun ls hl => ?_)
    refine lv_aload_n hx hb dL_law_237 rfl (lv_at hl 4 rfl) ?_
    refine W.callR (r := nI 1) (W.runV (As := []) (rest := []) ⟨hx, hb, hml, hown, hts⟩ (kX1_thrown l dC dI cI cZ cA ad 1 n wv lo cf tf vs nr ) (cwV 0 hts gL_law_X1_thrown rfl rfl rfl (by decide +kernel) ⟨Nat.le_of_ble_eq_true rfl, Nat.le_of_ble_eq_true rfl⟩) ⟨blindR, va_recv hKg (pR hP) (ci := 1) (q0 := 0) rfl rfl, preR (pR hP) hKg⟩ rfl rfl hl.1 rfl (lv_room (Nat.le_of_ble_eq_true rfl)) dL_law_238 hc2) ?_
    refine W.eq (g2 := F0 m 241 ls [.int (nI 1)]) rfl ?_
    refine lv_iload hx hb dL_law_241 (lv_at hl 1 rfl) ?_
    refine lv_icmp_eq (tgt := 248) hx hb dL_law_243 (by decide) (fun hq1 => ?_) (fun hq1 => absurd (show nI 1 = 1 from rfl) hq1)
    refine lv_iload hx hb dL_law_248 (lv_at hl 1 rfl) ?_
    refine lv_if_ne (tgt := 265) hx hb dL_law_250 (by decide) (fun hq2 => ?_) (fun hq2 => absurd hq2 (by decide))
    refine lv_goto (tgt := 927) hx hb dL_law_265 (by decide) ?_
    exact nx n am rf mk wv lo cf tf T mt im 1 vs nr fo (hI) H locs hP hD hS ls (lv_sub hl [2, 3, 4, 5, 6] rfl)
