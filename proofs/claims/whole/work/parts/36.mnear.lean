/-- the model's near, behind t rounds -/
def Nr (n : Nat) (cf tf : Nat → Nat) (x t : Nat) (nr : Nat → Nat) : Prop := (∀ y, y < n → nr y ≤ t ∨ nr y = 100) ∧ (∀ y, y < n → (nr y < 100 ↔ rch cf tf x t y)) ∧ ∀ k, k < n → nr k < t → ∀ j, j < cf k → nr (tf (k * 6 + j)) ≤ t
/-- within round t, from nr: the targets that E names are set -/
def Nw (n t : Nat) (nr : Nat → Nat) (E : Nat → Prop) (nr2 : Nat → Nat) : Prop := ∀ y, y < n → (nr y ≤ t → nr2 y = nr y) ∧ (¬ nr y ≤ t → (E y → nr2 y = t + 1) ∧ (¬ E y → nr2 y = 100))
def Ex (cf tf nr : Nat → Nat) (t k j : Nat) (y : Nat) : Prop := (∃ z, z < k ∧ nr z = t ∧ ∃ i, i < cf z ∧ tf (z * 6 + i) = y) ∨ (nr k = t ∧ ∃ i, i < j ∧ tf (k * 6 + i) = y)
theorem rch_lt {n : Nat} {cf tf : Nat → Nat} {x : Nat} (hx : x < n) (ht : ∀ x, x < n → ∀ j, j < cf x → tf (x * 6 + j) < n) : ∀ d y : Nat, rch cf tf x d y → y < n
  | 0, y, h => by have e : y = x := h; omega
  | d + 1, y, h => by
    rcases h with h | ⟨z, h1, j, h2, h3⟩
    · exact rch_lt hx ht d y h
    · rw [← h3]; exact ht z (rch_lt hx ht d z h1) j h2
theorem Nw.iff {n t : Nat} {nr nr2 : Nat → Nat} {E E2 : Nat → Prop} (h : Nw n t nr E nr2) (e : ∀ y, E y ↔ E2 y) : Nw n t nr E2 nr2 := fun y hy => ⟨(h y hy).1, fun q => ⟨fun z => ((h y hy).2 q).1 ((e y).mpr z), fun z => ((h y hy).2 q).2 (fun w => z ((e y).mp w))⟩⟩
theorem Nw.le {n t : Nat} {nr nr2 : Nat → Nat} {E : Nat → Prop} (ht : t < 8) (h : Nw n t nr E nr2) {y : Nat} (hy : y < n) : nr2 y ≤ 100 := by
  by_cases h1 : nr y ≤ t
  · rw [(h y hy).1 h1]; omega
  · by_cases h2 : E y
    · rw [((h y hy).2 h1).1 h2]; omega
    · rw [((h y hy).2 h1).2 h2]; omega
theorem Nw.at {n t : Nat} {nr nr2 : Nat → Nat} {E : Nat → Prop} (ht : t < 8) (h : Nw n t nr E nr2) {y : Nat} (hy : y < n) : nr2 y = t ↔ nr y = t := by
  by_cases h1 : nr y ≤ t
  · rw [(h y hy).1 h1]
  · refine ⟨fun q => ?_, fun q => absurd (Nat.le_of_eq q) h1⟩
    by_cases h2 : E y
    · rw [((h y hy).2 h1).1 h2] at q; omega
    · rw [((h y hy).2 h1).2 h2] at q; omega
theorem Nw.put {n t : Nat} {nr nr2 : Nat → Nat} {E E2 : Nat → Prop} (ht : t < 8) (h : Nw n t nr E nr2) {y v : Nat} (hy : y < n) (hv : v = if nr2 y ≤ t then nr2 y else t + 1) (e : ∀ z, E2 z ↔ E z ∨ z = y) : Nw n t nr E2 (va_up nr2 y v) := by
  intro z hz
  by_cases e1 : z = y
  · subst e1
    rw [va_up_self]
    refine ⟨fun q => ?_, fun q => ⟨fun _ => ?_, fun w => absurd ((e z).mpr (Or.inr rfl)) w⟩⟩
    · rw [hv, (h z hz).1 q, if_pos q]
    · rw [hv, if_neg]
      by_cases h2 : E z
      · rw [((h z hz).2 q).1 h2]; omega
      · rw [((h z hz).2 q).2 h2]; omega
  · rw [va_up_ne _ _ e1]
    exact ⟨(h z hz).1, fun q => ⟨fun w => ((h z hz).2 q).1 (((e z).mp w).resolve_right e1), fun w => ((h z hz).2 q).2 (fun u => w ((e z).mpr (Or.inl u)))⟩⟩
theorem Ex_0 {cf tf nr : Nat → Nat} {t k : Nat} (y : Nat) : Ex cf tf nr t k (if nr k = t then cf k else 0) y ↔ Ex cf tf nr t (k + 1) 0 y := by
  unfold Ex
  constructor
  · rintro (⟨z, h1, h2, h3⟩ | ⟨h1, i, h2, h3⟩)
    · exact Or.inl ⟨z, by omega, h2, h3⟩
    · rw [if_pos h1] at h2
      exact Or.inl ⟨k, by omega, h1, i, h2, h3⟩
  · rintro (⟨z, h1, h2, i, h3, h4⟩ | ⟨h1, i, h2, h3⟩)
    · by_cases e : z = k
      · subst e
        exact Or.inr ⟨h2, i, by rw [if_pos h2]; exact h3, h4⟩
      · exact Or.inl ⟨z, by omega, h2, i, h3, h4⟩
    · exact absurd h2 (by omega)
theorem Ex_s {cf tf nr : Nat → Nat} {t k j : Nat} (hk : nr k = t) (y : Nat) : Ex cf tf nr t k (j + 1) y ↔ Ex cf tf nr t k j y ∨ y = tf (k * 6 + j) := by
  unfold Ex
  constructor
  · rintro (h | ⟨h1, i, h2, h3⟩)
    · exact Or.inl (Or.inl h)
    · by_cases e : i = j
      · exact Or.inr (by rw [← h3, e])
      · exact Or.inl (Or.inr ⟨h1, i, by omega, h3⟩)
  · rintro ((h | ⟨h1, i, h2, h3⟩) | h)
    · exact Or.inl h
    · exact Or.inr ⟨h1, i, by omega, h3⟩
    · exact Or.inr ⟨hk, j, by omega, h.symm⟩
theorem Ex_n {cf tf nr : Nat → Nat} {t k j : Nat} (hk : ¬ nr k = t) (y : Nat) : Ex cf tf nr t k j y ↔ Ex cf tf nr t k 0 y := by
  unfold Ex
  constructor
  · rintro (h | ⟨h1, -⟩)
    · exact Or.inl h
    · exact absurd h1 hk
  · rintro (h | ⟨h1, -⟩)
    · exact Or.inl h
    · exact absurd h1 hk
theorem Nr.next {n : Nat} {cf tf : Nat → Nat} {x t : Nat} {nr nr2 : Nat → Nat} (hx : x < n) (ht8 : t < 8) (htt : ∀ x, x < n → ∀ j, j < cf x → tf (x * 6 + j) < n) (h : Nr n cf tf x t nr) (h2 : Nw n t nr (Ex cf tf nr t n 0) nr2) : Nr n cf tf x (t + 1) nr2 := by
  obtain ⟨a1, a2, a3⟩ := h
  have hE : ∀ y, Ex cf tf nr t n 0 y ↔ ∃ z, z < n ∧ nr z = t ∧ ∃ i, i < cf z ∧ tf (z * 6 + i) = y := fun y => ⟨fun q => q.elim id (fun ⟨_, i, w, _⟩ => absurd w (by omega)), fun q => Or.inl q⟩
  have hlow : ∀ y, y < n → nr2 y < 100 → nr y ≤ t ∨ (¬ nr y ≤ t ∧ Ex cf tf nr t n 0 y) := by
    intro y hy q
    by_cases c1 : nr y ≤ t
    · exact Or.inl c1
    · by_cases c2 : Ex cf tf nr t n 0 y
      · exact Or.inr ⟨c1, c2⟩
      · rw [((h2 y hy).2 c1).2 c2] at q; omega
  refine ⟨fun y hy => ?_, fun y hy => ⟨fun q => ?_, fun q => ?_⟩, fun k hk hkt j hj => ?_⟩
  · by_cases c1 : nr y ≤ t
    · rw [(h2 y hy).1 c1]; exact Or.inl (by omega)
    · by_cases c2 : Ex cf tf nr t n 0 y
      · rw [((h2 y hy).2 c1).1 c2]; exact Or.inl (Nat.le_refl _)
      · rw [((h2 y hy).2 c1).2 c2]; exact Or.inr rfl
  · rcases hlow y hy q with c1 | ⟨c1, c2⟩
    · exact Or.inl ((a2 y hy).mp (by omega))
    · obtain ⟨z, b1, b2, b3⟩ := (hE y).mp c2
      exact Or.inr ⟨z, (a2 z b1).mp (by omega), b3⟩
  · by_cases c1 : nr y ≤ t
    · rw [(h2 y hy).1 c1]; omega
    · have c2 : Ex cf tf nr t n 0 y := by
        rcases q with q | ⟨z, q1, j, q2, q3⟩
        · have := (a2 y hy).mpr q
          have := a1 y hy
          omega
        · have hz := rch_lt hx htt t z q1
          have w1 := (a2 z hz).mpr q1
          have w2 := a1 z hz
          by_cases e : nr z = t
          · exact (hE y).mpr ⟨z, hz, e, j, q2, q3⟩
          · have := a3 z hz (by omega) j q2
            rw [q3] at this
            exact absurd this c1
      rw [((h2 y hy).2 c1).1 c2]; omega
  · have hy := htt k hk j hj
    have ck : nr k ≤ t := by
      by_cases c1 : nr k ≤ t
      · exact c1
      · by_cases c2 : Ex cf tf nr t n 0 k
        · rw [((h2 k hk).2 c1).1 c2] at hkt; omega
        · rw [((h2 k hk).2 c1).2 c2] at hkt; omega
    by_cases c1 : nr (tf (k * 6 + j)) ≤ t
    · rw [(h2 _ hy).1 c1]; omega
    · by_cases e : nr k = t
      · rw [((h2 _ hy).2 c1).1 ((hE _).mpr ⟨k, hk, e, j, hj, rfl⟩)]; exact Nat.le_refl _
      · exact absurd (a3 k hk (by omega) j hj) c1
set_option maxHeartbeats 4000000 in
set_option maxRecDepth 100000 in
/-- around, refused -/
theorem kX1_around_no (l : Launch) (dC : Nat → ClassId) (dI : Nat → Nat → Nat) (cI cZ cA : ClassId) (a : Nat → Nat) (sz : Nat) (th : Nat) (n : Nat) (wv : Nat → Int32) (lo : Nat → Int32) (cf : Nat → Nat) (tf : Nat → Nat) (vs : Nat → Int32) (nr : Nat → Nat) (x d : Int32) (hB : Bad n x d) : Met l yX1_around wsX1_around ({ frames := 1, cells := 0, slots := 0, locals := 21 }) (va_Pc [.ref (a 0), .int x, .int d] (WP dC dI (GT cI cZ cA) (MW cI cZ a th n wv lo cf tf vs nr) sz)) (va_Qi (fun r (_ : Unit) => r = 0) (fun (_ : Unit) => WQ dC dI (GT cI cZ cA) (va_A (MW cI cZ a th n wv lo cf tf vs nr) sz) (MW cI cZ a 1 n wv lo cf tf vs nr)) (va_A (MW cI cZ a th n wv lo cf tf vs nr) sz)) 0 0 (va_A (MW cI cZ a th n wv lo cf tf vs nr) sz) := by
  refine Met.ofW (cc := cX1_around) (maxL := 7) (ret := (some .int)) (by decide) rfl ?_
  intro p e s m args below meth c s₁ B hml hv
  obtain ⟨rfl, hsz, hP, hK, hD0⟩ := hv
  have hx := B.exec
  have hb := B.bytes
  have hr := B.returns
  have hts := atoms_spec (ws := wsX1_around) B.pre
  have hown : s.vm.findClass RX1 = some m.cls := findClass_of_methodNamed B.named
  have hlocks := B.notSynchronized
  have hf_29 := hts (.fieldLink RX1 29 "GraphSearchModel" "thrown" "I") (by decide +kernel)
  have hf_33 := hts (.fieldLink RX1 33 "GraphSearchModel" "nodes" "I") (by decide +kernel)
  have hf_26 := hts (.fieldLink RX1 26 "GraphSearchModel" "near" "[I") (by decide +kernel)
  have hf_17 := hts (.fieldLink RX1 17 "GraphSearchModel" "many" "[I") (by decide +kernel)
  have hf_20 := hts (.fieldLink RX1 20 "GraphSearchModel" "to" "[I") (by decide +kernel)
  have hiw : ∀ w ∈ wsX10, w ∈ wsX1_around := by decide +kernel
  subst hsz
  have hD := hD0.self (sz := s.heap.size)
  generalize hAe : va_A (MW cI cZ a th n wv lo cf tf vs nr) s.heap.size = A at hD ⊢
  have hA : ∀ q : Nat, s.heap.size ≤ q → A q := fun q h => by rw [← hAe]; exact Or.inr h
  have hS : va_S A s.heap s.heap [] := va_S.rf
  have hP : va_P (dC, dI) vwCl (MW cI cZ a th n wv lo cf tf vs nr) s.heap := hP
  have hl := lv_entry ([.ref (a 0), .int x, .int d]) (n := 7) (Nat.le_of_ble_eq_true rfl)
  rw [lg_entry_eq]
  generalize (lg_sl ([.ref (a 0), .int x, .int d]) ++ List.replicate (7 - (lg_sl ([.ref (a 0), .int x, .int d])).length) Slot.unset).toArray = ls at hl ⊢
  have hl : lv_has ls 7 [(0, .ref (a 0)), (1, .int x), (2, .int d)] := hl
  refine lv_aload_n hx hb dX1_around_0 rfl (lv_at hl 0 rfl) ?_
  refine lv_aload_n hx hb dX1_around_1 rfl (lv_at hl 0 rfl) ?_
  refine lv_iload_n hx hb dX1_around_2 rfl (lv_at hl 1 rfl) ?_
  refine W.callR (r := isn x n) (W.runV (As := [.int x]) (rest := [.ref (a 0)]) ⟨hx, hb, hml, hown, hts⟩ (kX1_isNode l dC dI cI cZ cA a th n wv lo cf tf vs nr x) (cwV 1 hts gX1_around_X1_isNode rfl rfl rfl (by decide +kernel) ⟨Nat.le_of_ble_eq_true rfl, Nat.le_of_ble_eq_true rfl⟩) ⟨blindR, va_recv hK hP (ci := 1) (q0 := 0) rfl rfl, preR hP hK⟩ rfl rfl hl.1 rfl (lv_room (Nat.le_of_ble_eq_true rfl)) dX1_around_3 ⟨Nat.zero_le _, Nat.zero_le _⟩) ?_
  refine W.eq (g2 := F0 m 6 ls [.int (isn x n), .ref (a 0)]) rfl ?_
  refine lv_if_eq (tgt := 23) hx hb dX1_around_6 (by decide) (fun h6 => ?_) (fun h6 => ?_)
  · refine lv_iconst (v := 1) hx hb dX1_around_23 (by decide) ?_
    refine ga_is (y := nI 1) (rfl) ?_
    refine va_put (D := (dC, dI)) (ci := 1) (v := .int (nI 1)) (ty := .int) (C := RX1) (T := TX1) (N := 8) hx hb hts hiw tyX1 tyX1_ok nmX1 hown hK hP hD hS 0 rfl rfl 0 (by decide) hf_29 (fun _ h9 => h9) rfl (by decide +kernel) rfl rfl (Nat.le_of_ble_eq_true rfl) dX1_around_24 (fun H locs hP hD hS => ?_)
    have hP : va_P (dC, dI) vwCl (MW cI cZ a 1 n wv lo cf tf vs nr) H := hP
    have hD : va_D A (MW cI cZ a 1 n wv lo cf tf vs nr) := hD
    refine lv_aload_n hx hb dX1_around_27 rfl (lv_at hl 0 rfl) ?_
    refine va_get (D := (dC, dI)) (ci := 1) (v := .int (nI 1)) (C := RX1) (T := TX1) (N := 8) hx hb hts hiw hown hK hP 0 rfl rfl 0 (by decide) hf_29 (fun _ h9 => h9) rfl dX1_around_28 ?_
    refine lv_if_le (tgt := 36) hx hb dX1_around_31 (by decide) (fun h31 => absurd h31 (nI_nle (by decide) (by decide))) (fun h31 => ?_)
    refine lv_iconst (v := 0) hx hb dX1_around_34 (by decide) ?_
    exact W.iret (v := 0) hx hb hr (fun t ht hW => ⟨⟨0, (), rfl, rfl, by rw [ht]; exact hP, va_K.moved hW.alike hK, hD⟩, hS.F ht⟩) hS.2.2 dX1_around_35
  · refine lv_iload_n hx hb dX1_around_9 rfl (lv_at hl 2 rfl) ?_
    refine lv_if_lt (tgt := 23) hx hb dX1_around_10 (by decide) (fun h10 => ?_) (fun h10 => ?_)
    · refine lv_iconst (v := 1) hx hb dX1_around_23 (by decide) ?_
      refine ga_is (y := nI 1) (rfl) ?_
      refine va_put (D := (dC, dI)) (ci := 1) (v := .int (nI 1)) (ty := .int) (C := RX1) (T := TX1) (N := 8) hx hb hts hiw tyX1 tyX1_ok nmX1 hown hK hP hD hS 0 rfl rfl 0 (by decide) hf_29 (fun _ h9 => h9) rfl (by decide +kernel) rfl rfl (Nat.le_of_ble_eq_true rfl) dX1_around_24 (fun H locs hP hD hS => ?_)
      have hP : va_P (dC, dI) vwCl (MW cI cZ a 1 n wv lo cf tf vs nr) H := hP
      have hD : va_D A (MW cI cZ a 1 n wv lo cf tf vs nr) := hD
      refine lv_aload_n hx hb dX1_around_27 rfl (lv_at hl 0 rfl) ?_
      refine va_get (D := (dC, dI)) (ci := 1) (v := .int (nI 1)) (C := RX1) (T := TX1) (N := 8) hx hb hts hiw hown hK hP 0 rfl rfl 0 (by decide) hf_29 (fun _ h9 => h9) rfl dX1_around_28 ?_
      refine lv_if_le (tgt := 36) hx hb dX1_around_31 (by decide) (fun h31 => absurd h31 (nI_nle (by decide) (by decide))) (fun h31 => ?_)
      refine lv_iconst (v := 0) hx hb dX1_around_34 (by decide) ?_
      exact W.iret (v := 0) hx hb hr (fun t ht hW => ⟨⟨0, (), rfl, rfl, by rw [ht]; exact hP, va_K.moved hW.alike hK, hD⟩, hS.F ht⟩) hS.2.2 dX1_around_35
    · refine lv_iload_n hx hb dX1_around_13 rfl (lv_at hl 2 rfl) ?_
      refine lv_bipush (v := 7) hx hb dX1_around_14 (by decide) ?_
      refine lv_icmp_gt (tgt := 23) hx hb dX1_around_16 (by decide) (fun h16 => ?_) (fun h16 => absurd ((hB.resolve_left h6).resolve_left h10) h16)
      refine lv_iconst (v := 1) hx hb dX1_around_23 (by decide) ?_
      refine ga_is (y := nI 1) (rfl) ?_
      refine va_put (D := (dC, dI)) (ci := 1) (v := .int (nI 1)) (ty := .int) (C := RX1) (T := TX1) (N := 8) hx hb hts hiw tyX1 tyX1_ok nmX1 hown hK hP hD hS 0 rfl rfl 0 (by decide) hf_29 (fun _ h9 => h9) rfl (by decide +kernel) rfl rfl (Nat.le_of_ble_eq_true rfl) dX1_around_24 (fun H locs hP hD hS => ?_)
      have hP : va_P (dC, dI) vwCl (MW cI cZ a 1 n wv lo cf tf vs nr) H := hP
      have hD : va_D A (MW cI cZ a 1 n wv lo cf tf vs nr) := hD
      refine lv_aload_n hx hb dX1_around_27 rfl (lv_at hl 0 rfl) ?_
      refine va_get (D := (dC, dI)) (ci := 1) (v := .int (nI 1)) (C := RX1) (T := TX1) (N := 8) hx hb hts hiw hown hK hP 0 rfl rfl 0 (by decide) hf_29 (fun _ h9 => h9) rfl dX1_around_28 ?_
      refine lv_if_le (tgt := 36) hx hb dX1_around_31 (by decide) (fun h31 => absurd h31 (nI_nle (by decide) (by decide))) (fun h31 => ?_)
      refine lv_iconst (v := 0) hx hb dX1_around_34 (by decide) ?_
      exact W.iret (v := 0) hx hb hr (fun t ht hW => ⟨⟨0, (), rfl, rfl, by rw [ht]; exact hP, va_K.moved hW.alike hK, hD⟩, hS.F ht⟩) hS.2.2 dX1_around_35
