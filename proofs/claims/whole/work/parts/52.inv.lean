/-! between two calls of the law: the class and the model hold one game -/
def LInv (n am rf mk : Nat) (wv lo : Nat → Int32) (cf tf : Nat → Nat) (T : Nat → Nat → Int32) (mt : Nat → Nat) (im : Nat → Int32) : Prop := Gok n wv lo cf tf ∧ Tok n wv lo cf tf rf T ∧ Mkeep mk mt im ∧ am = sum_ cf n
def bz (v : Int32) : Int32 := if v = 0 then 0 else 1
theorem bz_01 (v : Int32) : bz v = 0 ∨ bz v = 1 := by
  unfold bz
  by_cases h : v = 0
  · rw [if_pos h]; exact Or.inl rfl
  · rw [if_neg h]; exact Or.inr rfl
theorem iw_or (v : Int32) : iw v = 0 ∨ iw v = 1 := by
  unfold iw
  by_cases h : v < (-500)
  · rw [if_pos h]; exact Or.inl rfl
  · rw [if_neg h]
    by_cases h2 : 500 < v
    · rw [if_pos h2]; exact Or.inl rfl
    · rw [if_neg h2]; exact Or.inr rfl
theorem iw_rg {v : Int32} (h : iw v = 1) : rg v := by
  unfold iw at h
  by_cases h1 : v < (-500)
  · rw [if_pos h1] at h; exact absurd h (by decide)
  · rw [if_neg h1] at h
    by_cases h2 : 500 < v
    · rw [if_pos h2] at h; exact absurd h (by decide)
    · rw [rg_toInt]
      rw [Int32.lt_iff_toInt_lt, show ((-500 : Int32)).toInt = -500 by decide +kernel] at h1
      rw [Int32.lt_iff_toInt_lt, show ((500 : Int32)).toInt = 500 by decide +kernel] at h2
      omega
theorem Tok_0 {n : Nat} {wv lo : Nat → Int32} {cf tf : Nat → Nat} {T : Nat → Nat → Int32} : Tok n wv lo cf tf 0 T := ⟨by omega, fun e he => absurd he (by omega)⟩
theorem sum_up {cf : Nat → Nat} {i v : Nat} : ∀ n : Nat, (n ≤ i → sum_ (va_up cf i v) n = sum_ cf n) ∧ (i < n → sum_ (va_up cf i v) n + cf i = sum_ cf n + v)
  | 0 => ⟨fun _ => rfl, fun h => absurd h (by omega)⟩
  | n + 1 => by
    obtain ⟨h1, h2⟩ := sum_up (cf := cf) (i := i) (v := v) n
    refine ⟨fun h => ?_, fun h => ?_⟩
    · show sum_ (va_up cf i v) n + va_up cf i v n = sum_ cf n + cf n
      rw [h1 (by omega), va_up_ne _ _ (by omega)]
    · show sum_ (va_up cf i v) n + va_up cf i v n + cf i = sum_ cf n + cf n + v
      by_cases e : n = i
      · subst e
        rw [h1 (Nat.le_refl _), va_up_self]
        omega
      · rw [va_up_ne _ _ e]
        have := h2 (by omega)
        omega
theorem sum_ge {cf : Nat → Nat} {i : Nat} : ∀ n : Nat, i < n → cf i ≤ sum_ cf n
  | 0, h => absurd h (by omega)
  | n + 1, h => by
    show cf i ≤ sum_ cf n + cf n
    by_cases e : i = n
    · rw [e]; omega
    · have := sum_ge (cf := cf) (i := i) n (by omega)
      omega
theorem LInv.node {n am rf mk : Nat} {wv lo : Nat → Int32} {cf tf : Nat → Nat} {T : Nat → Nat → Int32} {mt : Nat → Nat} {im : Nat → Int32} (h : LInv n am rf mk wv lo cf tf T mt im) {v b : Int32} (hn : n < 400) (hv : iw v = 1) (hb : b = 0 ∨ b = 1) : LInv (n + 1) am 0 mk (upd wv n v) (upd lo n b) cf tf T mt im := by
  obtain ⟨⟨g1, g2, g3, g4, g5, g6⟩, -, hM, ha⟩ := h
  have c0 := g6 n (Nat.le_refl _)
  refine ⟨⟨by omega, fun x hx => ?_, fun x hx => ?_, fun x hx j hj => ?_, fun x => ?_, fun x hx => g6 x (by omega)⟩, Tok_0, hM, ?_⟩
  · by_cases e : x = n
    · rw [e, upd_s]; exact iw_rg hv
    · rw [upd_n e]; exact g2 x (by omega)
  · by_cases e : x = n
    · rw [e, c0]; omega
    · exact g3 x (by omega)
  · by_cases e : x = n
    · rw [e, c0] at hj; exact absurd hj (by omega)
    · have := g4 x (by omega) j hj
      omega
  · by_cases e : x = n
    · rw [e, upd_s]; exact hb
    · rw [upd_n e]; exact g5 x
  · show am = sum_ cf n + cf n
    rw [c0, ha]; rfl
theorem LInv.change {n am rf mk : Nat} {wv lo : Nat → Int32} {cf tf : Nat → Nat} {T : Nat → Nat → Int32} {mt : Nat → Nat} {im : Nat → Int32} (h : LInv n am rf mk wv lo cf tf T mt im) {j : Nat} {v b : Int32} (hv : iw v = 1) (hb : b = 0 ∨ b = 1) : LInv n am 0 mk (upd wv j v) (upd lo j b) cf tf T mt im := by
  obtain ⟨⟨g1, g2, g3, g4, g5, g6⟩, -, hM, ha⟩ := h
  refine ⟨⟨g1, fun x hx => ?_, g3, g4, fun x => ?_, g6⟩, Tok_0, hM, ha⟩
  · by_cases e : x = j
    · rw [e, upd_s]; exact iw_rg hv
    · rw [upd_n e]; exact g2 x hx
  · by_cases e : x = j
    · rw [e, upd_s]; exact hb
    · rw [upd_n e]; exact g5 x
theorem LInv.move {n am rf mk : Nat} {wv lo : Nat → Int32} {cf tf : Nat → Nat} {T : Nat → Nat → Int32} {mt : Nat → Nat} {im : Nat → Int32} (h : LInv n am rf mk wv lo cf tf T mt im) {i j : Nat} (hi : i < n) (hj : j < n) (hc : cf i < 6) : LInv n (am + 1) 0 mk wv lo (va_up cf i (cf i + 1)) (va_up tf (i * 6 + cf i) j) T mt im := by
  obtain ⟨⟨g1, g2, g3, g4, g5, g6⟩, -, hM, ha⟩ := h
  refine ⟨⟨g1, g2, fun x hx => ?_, fun x hx k hk => ?_, g5, fun x hx => ?_⟩, Tok_0, hM, ?_⟩
  · by_cases e : x = i
    · rw [e, va_up_self]; omega
    · rw [va_up_ne _ _ e]; exact g3 x hx
  · by_cases e : x = i
    · subst e
      rw [va_up_self] at hk
      by_cases e2 : k = cf x
      · rw [e2, va_up_self]; exact hj
      · rw [va_up_ne _ _ (by omega)]; exact g4 x hx k (by omega)
    · rw [va_up_ne _ _ e] at hk
      have := g3 x hx
      rw [va_up_ne _ _ (by omega)]; exact g4 x hx k hk
  · rw [va_up_ne _ _ (by omega)]; exact g6 x hx
  · have := (sum_up (cf := cf) (i := i) (v := cf i + 1) n).2 hi
    omega
theorem LInv.drop {n am rf mk : Nat} {wv lo : Nat → Int32} {cf tf : Nat → Nat} {T : Nat → Nat → Int32} {mt : Nat → Nat} {im : Nat → Int32} (h : LInv n am rf mk wv lo cf tf T mt im) {j c0 : Nat} (hj : j < n) (hc : cf j = c0 + 1) : LInv n (am - 1) 0 mk wv lo (va_up cf j c0) tf T mt im := by
  obtain ⟨⟨g1, g2, g3, g4, g5, g6⟩, -, hM, ha⟩ := h
  refine ⟨⟨g1, g2, fun x hx => ?_, fun x hx k hk => ?_, g5, fun x hx => ?_⟩, Tok_0, hM, ?_⟩
  · by_cases e : x = j
    · have := g3 j hj
      rw [e, va_up_self]; omega
    · rw [va_up_ne _ _ e]; exact g3 x hx
  · by_cases e : x = j
    · subst e
      rw [va_up_self] at hk
      exact g4 x hx k (by omega)
    · rw [va_up_ne _ _ e] at hk; exact g4 x hx k hk
  · rw [va_up_ne _ _ (by omega)]; exact g6 x hx
  · have := (sum_up (cf := cf) (i := j) (v := c0) n).2 hj
    omega
theorem LInv.am_pos {n am rf mk : Nat} {wv lo : Nat → Int32} {cf tf : Nat → Nat} {T : Nat → Nat → Int32} {mt : Nat → Nat} {im : Nat → Int32} (h : LInv n am rf mk wv lo cf tf T mt im) {j c0 : Nat} (hj : j < n) (hc : cf j = c0 + 1) : 0 < am := by
  have h1 := sum_ge (cf := cf) (i := j) n hj
  have h2 := h.2.2.2
  omega
theorem lin_gt {cf tf : Nat → Nat} {V : Nat → Nat → Int32} : ∀ d k x : Nat, d < k → lin cf tf V k x d = (-1)
  | d, 0, x, h => absurd h (by omega)
  | 0, k + 1, x, _ => if_pos rfl
  | d + 1, k + 1, x, h => by
    show (if bm cf tf V x (d + 1) = (-1) then (-1) else lin cf tf V k _ (d + 1 - 1)) = (-1)
    by_cases e : bm cf tf V x (d + 1) = (-1)
    · rw [if_pos e]
    · rw [if_neg e, Nat.add_sub_cancel]
      exact lin_gt d k _ (by omega)
theorem freeR {A0 : Nat → Prop} {wc wl : va_W} {H0 H : Heap} {locs : List Loc} (hD : va_D A0 (wl ++ wc)) (hS : va_S A0 H0 H locs) (hA : ∀ q, H0.size ≤ q → A0 q) : ∀ q, va_A wc H.size q → A0 q := freeL (swapD hD) hS hA
theorem joinR {A0 : Nat → Prop} {D : va_G} {cl : List vw_C} {wc wl w1 : va_W} {H H1 : Heap} (hP : va_P D cl (wl ++ wc) H) (hD : va_D A0 (wl ++ wc)) (hk : ∀ q : Nat, q < H.size → ¬ va_A wc H.size q → H1[q]? = H[q]?) (hF : ∀ q, va_A wc H.size q → A0 q) (hP1 : va_P D cl w1 H1) (hD1 : va_D (va_A wc H.size) w1) : va_P D cl (wl ++ w1) H1 ∧ va_D A0 (wl ++ w1) := by
  obtain ⟨h1, h2⟩ := joinL (swapP hP) (swapD hD) hk hF hP1 hD1
  exact ⟨swapP h1, swapD h2⟩
theorem keepN {D : va_G} {cl : List vw_C} {ws : va_W} {H H1 : Heap} (hP : va_P D cl ws H) (hk : ∀ q : Nat, q < H.size → ¬ H.size ≤ q → H1[q]? = H[q]?) : va_P D cl ws H1 := hP.kept (fun k q hq => hk q.1 ((hP k q hq).lt) (Nat.not_le.mpr (hP k q hq).lt))
theorem lcmp_self (x : Int64) : lg_cmp x x = 0 := (lg_cmp_eq x x).mpr rfl
theorem upL_0 (f : Nat → Int64) (x : Int64) : vp_updL f (0 : Int32).toNatClampNeg x (0 : Int32).toNatClampNeg = x := if_pos rfl
section GSL
variable {p : Program} {l : Launch} {e : Env} {R : Room} {s : State} {m : MethodId} {args : Array Value} {below : List Frame} {meth : Method} {c : Code} {H : Heap} {locs : List Loc} {cells slots : Nat} {Q : State → Prop}
variable {cc : ByteArray} {pc : Nat} {ls : Array Slot} {rest : List Value} {A : Nat → Prop} {H0 : Heap}
theorem ga_sld (hexec : p.tables.exec = Jvm.exec) (hb : c.code = cc) {b L : Nat} {xs : Nat → Int32} (hX : va_X b L xs s H0) (hbl : b < H0.size) (hbA : ¬ A b) (hS : va_S A H0 H locs) (k : Nat) (hk : k < L) (hL : L ≤ 2049) (hdg : decode cc pc = .ok (.iaload, 1))
    (kk : W p l e R s m args below meth c H locs cells slots Q (F0 m (pc + 1) ls (.int (xs k) :: rest))) : W p l e R s m args below meth c H locs cells slots Q (F0 m pc ls (.int (nI k) :: .ref b :: rest)) := by
  refine va_sld hexec hb hX hbl hbA hS (vp_in_nI hk (by omega)) hdg ?_
  rw [nI_clamp (by omega)]
  exact kk
end GSL
