theorem law_lt {L i : Nat} (hL : L ≤ 2049) (hi : i ≤ 2049) (h : ¬ (nI L - 4 < nI i)) : i + 4 ≤ L := by
  rw [show (4 : Int32) = nI 4 from rfl, Int32.lt_iff_toInt_lt, pk_sub_toInt (by omega) (by omega), nI_toInt (by omega)] at h
  omega
set_option maxHeartbeats 4000000 in
set_option maxRecDepth 100000 in
theorem law_loop {p : Program} {l : Launch} {e : Env} {s : State} {m : MethodId} {below : List Frame} {meth : Method} {c : Code} {b L : Nat} {xs : Nat → Int32} (hL : L ≤ 2049) (C0 : lw_At p s m meth c b L xs) (hl9 : l.stackTraces = false) {dC : Nat → ClassId} {dI : Nat → Nat → Nat} {cI cZ cA cJ : ClassId} {sa : Nat → Nat} (hK : va_K (dC, dI) vwCl (GJ cI cZ cA cJ) s) (hE : EX sa (fun q : Nat => s.heap.size ≤ q) s s.heap) {a ad : Nat → Nat} {o : Nat} : ∀ (f t : Nat), t + f = 513 → t ≤ 512 → ∀ (n am rf mk : Nat) (wv lo : Nat → Int32) (cf tf : Nat → Nat) (T : Nat → Nat → Int32) (mt : Nat → Nat) (im : Nat → Int32) (th : Nat) (vs : Nat → Int32) (nr : Nat → Nat) (fo : Nat → Int64), LInv n am rf mk wv lo cf tf T mt im → ∀ (H : Heap) (locs : List Loc), va_P (dC, dI) vwCl ((XW cI cZ cA a n am rf mk wv lo cf tf T mt im ++ OW o cJ fo) ++ MW cI cZ ad th n wv lo cf tf vs nr) H → va_D (fun q : Nat => s.heap.size ≤ q) ((XW cI cZ cA a n am rf mk wv lo cf tf T mt im ++ OW o cJ fo) ++ MW cI cZ ad th n wv lo cf tf vs nr) → va_S (fun q : Nat => s.heap.size ≤ q) s.heap H locs → ∀ ls : Array Slot, lv_has ls 7 [(0, .ref b), (1, .ref (a 0)), (2, .ref (ad 0)), (3, .ref o), (4, .int (nI (1 + 4 * t)))] → W p l e room_1 s m #[Value.ref b] below meth c H locs (24 + t) (14828 + 6 * t) (lw_Z below #[Value.ref b] s) (F0 m 33 ls []) := by
  obtain ⟨hx, hb, hr, hml, hown, hts0, hX, hbl, hlocks, hgv⟩ := id C0
  have hbA : ¬ (fun q : Nat => s.heap.size ≤ q) b := Nat.not_le.mpr hbl
  intro f
  induction f with
  | zero => intro t h1 h2; exact absurd h1 (by omega)
  | succ f ih =>
    intro t ht ht5 n am rf mk wv lo cf tf T mt im th vs nr fo hI H locs hP hD hS ls hl
    refine lv_iload hx hb dL_law_33 (lv_at hl 4 rfl) ?_
    refine lv_aload_n hx hb dL_law_35 rfl (lv_at hl 0 rfl) ?_
    refine va_slen hx hb hX hbl hbA hS dL_law_36 ?_
    refine lv_iconst (v := 4) hx hb dL_law_37 (by decide) ?_
    refine lv_isub hx hb dL_law_38 ?_
    refine lv_icmp_gt (tgt := 933) hx hb dL_law_39 (by decide) (fun h39 => ?_) (fun h39 => ?_)
    · refine lv_iconst (v := 1) hx hb dL_law_933 (by decide) ?_
      refine va_forget (fun q hq => hS.2.2 q hq) ?_
      refine W.widen (k := 601024) (n := 7293000) (by omega) (by omega) ?_
      exact lw_ret hx hb hr hlocks dL_law_934
    · have hi : 1 + 4 * t + 4 ≤ L := law_lt hL (by omega) h39
      have hcs : 24 + t + 1 ≤ 601024 ∧ 14828 + 6 * t + 6 ≤ 7293000 := by omega
      have nx : LNx p l e s m below meth c b dC dI cI cZ cA cJ a ad o (1 + 4 * t) (24 + t + 1) (14828 + 6 * t + 6) := by
        intro n am rf mk wv lo cf tf T mt im th vs nr fo hI H locs hP hD hS ls hl
        refine lv_iinc (v := nI (1 + 4 * (t + 1))) (lv' := [(4, .int (nI (1 + 4 * (t + 1)))), (0, .ref b), (1, .ref (a 0)), (2, .ref (ad 0)), (3, .ref o)]) hx hb dL_law_927 hl (k := 4) rfl (show nI (1 + 4 * t) + nI 4 = nI (1 + 4 * (t + 1)) by rw [nI_add]; congr 1) (by decide) rfl (fun ls hl => ?_)
        refine lv_goto (tgt := 33) hx hb dL_law_930 (by decide) ?_
        exact ih (t + 1) (by omega) (by omega) n am rf mk wv lo cf tf T mt im th vs nr fo hI H locs hP hD hS ls (lv_sub hl [1, 2, 3, 4, 0] rfl)
      refine lv_aload_n hx hb dL_law_42 rfl (lv_at hl 0 rfl) ?_
      refine lv_iload hx hb dL_law_43 (lv_at hl 4 rfl) ?_
      refine ga_sld hx hb hX hbl hbA hS (1 + 4 * t) (by omega) hL dL_law_45 ?_
      refine lv_bipush (v := 15) hx hb dL_law_46 (by decide) ?_
      refine lv_iand hx hb dL_law_48 ?_
      obtain ⟨k, hk, ek⟩ := pk_andE (xs (1 + 4 * t)) (m := 15) 4 (by decide +kernel)
      refine ga_is (y := nI k) (ek) ?_
      rcases (show k = 0 ∨ k = 1 ∨ k = 2 ∨ k = 3 ∨ k = 4 ∨ k = 5 ∨ k = 6 ∨ k = 7 ∨ k = 8 ∨ k = 9 ∨ k = 10 ∨ k = 11 ∨ k = 12 ∨ k = 13 ∨ k = 14 ∨ k = 15 by omega) with rfl | rfl | rfl | rfl | rfl | rfl | rfl | rfl | rfl | rfl | rfl | rfl | rfl | rfl | rfl | rfl
      · refine lv_tableIn (tgt := 116) (off := 67) hx hb dL_law_49 (by decide +kernel) (by decide +kernel) (by decide +kernel) (by decide) ?_
        exact law_node hL C0 hl9 hK hE hi hcs nx n am rf mk wv lo cf tf T mt im th vs nr fo hI H locs hP hD hS ls hl
      · refine lv_tableIn (tgt := 200) (off := 151) hx hb dL_law_49 (by decide +kernel) (by decide +kernel) (by decide +kernel) (by decide) ?_
        exact law_move hL C0 hl9 hK hE hi hcs nx n am rf mk wv lo cf tf T mt im th vs nr fo hI H locs hP hD hS ls hl
      · refine lv_tableIn (tgt := 268) (off := 219) hx hb dL_law_49 (by decide +kernel) (by decide +kernel) (by decide +kernel) (by decide) ?_
        exact law_drop hL C0 hl9 hK hE hi hcs nx n am rf mk wv lo cf tf T mt im th vs nr fo hI H locs hP hD hS ls hl
      · refine lv_tableIn (tgt := 293) (off := 244) hx hb dL_law_49 (by decide +kernel) (by decide +kernel) (by decide +kernel) (by decide) ?_
        exact law_change hL C0 hl9 hK hE hi hcs nx n am rf mk wv lo cf tf T mt im th vs nr fo hI H locs hP hD hS ls hl
      · refine lv_tableIn (tgt := 358) (off := 309) hx hb dL_law_49 (by decide +kernel) (by decide +kernel) (by decide +kernel) (by decide) ?_
        exact law_value hL C0 hl9 hK hE hi hcs nx n am rf mk wv lo cf tf T mt im th vs nr fo hI H locs hP hD hS ls hl
      · refine lv_tableIn (tgt := 426) (off := 377) hx hb dL_law_49 (by decide +kernel) (by decide +kernel) (by decide +kernel) (by decide) ?_
        exact law_best hL C0 hl9 hK hE hi hcs nx n am rf mk wv lo cf tf T mt im th vs nr fo hI H locs hP hD hS ls hl
      · refine lv_tableIn (tgt := 494) (off := 445) hx hb dL_law_49 (by decide +kernel) (by decide +kernel) (by decide +kernel) (by decide) ?_
        exact law_reaches hL C0 hl9 hK hE hi hcs nx n am rf mk wv lo cf tf T mt im th vs nr fo hI H locs hP hD hS ls hl
      · refine lv_tableIn (tgt := 581) (off := 532) hx hb dL_law_49 (by decide +kernel) (by decide +kernel) (by decide +kernel) (by decide) ?_
        exact law_line hL C0 hl9 hK hE hi hcs nx n am rf mk wv lo cf tf T mt im th vs nr fo hI H locs hP hD hS ls hl
      · refine lv_tableIn (tgt := 661) (off := 612) hx hb dL_law_49 (by decide +kernel) (by decide +kernel) (by decide +kernel) (by decide) ?_
        exact law_ties hL C0 hl9 hK hE hi hcs nx n am rf mk wv lo cf tf T mt im th vs nr fo hI H locs hP hD hS ls hl
      · refine lv_tableIn (tgt := 729) (off := 680) hx hb dL_law_49 (by decide +kernel) (by decide +kernel) (by decide +kernel) (by decide) ?_
        exact law_settled hL C0 hl9 hK hE hi hcs nx n am rf mk wv lo cf tf T mt im th vs nr fo hI H locs hP hD hS ls hl
      · refine lv_tableIn (tgt := 797) (off := 748) hx hb dL_law_49 (by decide +kernel) (by decide +kernel) (by decide +kernel) (by decide) ?_
        exact law_of hL C0 hl9 hK hE hi hcs nx n am rf mk wv lo cf tf T mt im th vs nr fo hI H locs hP hD hS ls hl
      · refine lv_tableIn (tgt := 834) (off := 785) hx hb dL_law_49 (by decide +kernel) (by decide +kernel) (by decide +kernel) (by decide) ?_
        exact law_around hL C0 hl9 hK hE hi hcs nx n am rf mk wv lo cf tf T mt im th vs nr fo hI H locs hP hD hS ls hl
      · refine lv_tableIn (tgt := 902) (off := 853) hx hb dL_law_49 (by decide +kernel) (by decide +kernel) (by decide +kernel) (by decide) ?_
        exact law_look hL C0 hl9 hK hE hi hcs nx n am rf mk wv lo cf tf T mt im th vs nr fo hI H locs hP hD hS ls hl
      · refine lv_tableOut (tgt := 927) hx hb dL_law_49 (by decide +kernel) (by decide) ?_
        refine W.widen (k := 24 + t + 1) (n := 14828 + 6 * t + 6) (by omega) (by omega) ?_
        exact nx n am rf mk wv lo cf tf T mt im th vs nr fo hI H locs hP hD hS ls hl
      · refine lv_tableOut (tgt := 927) hx hb dL_law_49 (by decide +kernel) (by decide) ?_
        refine W.widen (k := 24 + t + 1) (n := 14828 + 6 * t + 6) (by omega) (by omega) ?_
        exact nx n am rf mk wv lo cf tf T mt im th vs nr fo hI H locs hP hD hS ls hl
      · refine lv_tableOut (tgt := 927) hx hb dL_law_49 (by decide +kernel) (by decide) ?_
        refine W.widen (k := 24 + t + 1) (n := 14828 + 6 * t + 6) (by omega) (by omega) ?_
        exact nx n am rf mk wv lo cf tf T mt im th vs nr fo hI H locs hP hD hS ls hl
