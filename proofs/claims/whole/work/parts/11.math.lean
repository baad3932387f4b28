/-! the game's numbers: what a node is worth at a depth -/
def iw (w : Int32) : Int32 := if w < (-500) then 0 else if 500 < w then 0 else 1
def isn (x : Int32) (n : Nat) : Int32 := if x < 0 then 0 else if nI n ≤ x then 0 else 1
def B32 (v : Int32) : Int32 := if (-900) ≤ -v then (if -v ≤ 900 then -v else -v - 1) else -v + 1
def mx (x y : Int32) : Int32 := if x < y then y else x
/-- what move j of x is worth by the row T -/
def gv (tf : Nat → Nat) (T : Nat → Int32) (x j : Nat) : Int32 := B32 (T (tf (x * 6 + j)))
/-- the greatest of the moves 0 .. k -/
def gm (tf : Nat → Nat) (T : Nat → Int32) (x : Nat) : Nat → Int32
  | 0 => gv tf T x 0
  | k + 1 => mx (gm tf T x k) (gv tf T x (k + 1))
def fv (wv lo : Nat → Int32) (cf tf : Nat → Nat) (T : Nat → Nat → Int32) (x : Nat) : Nat → Int32
  | 0 => if cf x = 0 then (if lo x = 0 then 0 else (-1000)) else wv x
  | d + 1 => if cf x = 0 then (if lo x = 0 then 0 else (-1000)) else gm tf (T d) x (cf x - 1)
/-- the VALUE -/
def vv (wv lo : Nat → Int32) (cf tf : Nat → Nat) : Nat → Nat → Int32
  | 0 => fun x => if cf x = 0 then (if lo x = 0 then 0 else (-1000)) else wv x
  | d + 1 => fun x => if cf x = 0 then (if lo x = 0 then 0 else (-1000)) else gm tf (vv wv lo cf tf d) x (cf x - 1)
/-- the first of the places j, j + 1, .. (k of them) where f is v, or -1 -/
def fst_ (f : Nat → Int32) (v : Int32) : Nat → Nat → Int32
  | 0, _ => (-1)
  | k + 1, j => if f j = v then nI j else fst_ f v k (j + 1)
def cnt_ (f : Nat → Int32) (v : Int32) : Nat → Nat
  | 0 => 0
  | k + 1 => cnt_ f v k + (if f k = v then 1 else 0)
/-- from the depth d down: the least from which on the value stays -/
def set_ (f : Nat → Int32) (v : Int32) : Nat → Nat
  | 0 => 0
  | d + 1 => if f d = v then set_ f v d else d + 1
def sum_ (cf : Nat → Nat) : Nat → Nat
  | 0 => 0
  | k + 1 => sum_ cf k + cf k
theorem i32_nle {x y : Int32} (h : ¬ x ≤ y) : y < x := by
  rw [Int32.le_iff_toInt_le] at h
  rw [Int32.lt_iff_toInt_lt]
  omega
theorem i32_nlt {x y : Int32} (h : ¬ x < y) : y ≤ x := by
  rw [Int32.lt_iff_toInt_lt] at h
  rw [Int32.le_iff_toInt_le]
  omega
theorem i32_eq {x y : Int32} (h1 : x ≤ y) (h2 : y ≤ x) : x = y := by
  rw [Int32.le_iff_toInt_le] at h1 h2
  exact Int32.toInt_inj.mp (by omega)
/-- a value's range -/
def rg (v : Int32) : Prop := (-1000) ≤ v ∧ v ≤ 999
theorem rg_toInt {v : Int32} : rg v ↔ -1000 ≤ v.toInt ∧ v.toInt ≤ 999 := by
  unfold rg
  rw [Int32.le_iff_toInt_le, Int32.le_iff_toInt_le, show ((-1000 : Int32)).toInt = -1000 by decide +kernel, show ((999 : Int32)).toInt = 999 by decide +kernel]
theorem neg_toInt {v : Int32} (h : rg v) : (-v).toInt = - v.toInt := by
  have h2 := rg_toInt.mp h
  rw [Int32.toInt_neg, Int.bmod_def]
  omega
theorem B32_rg {v : Int32} (h : rg v) : rg (B32 v) := by
  have h2 := rg_toInt.mp h
  have h3 := neg_toInt h
  rw [rg_toInt]
  unfold B32
  have e1 : ((-900 : Int32)).toInt = -900 := by decide +kernel
  have e2 : ((900 : Int32)).toInt = 900 := by decide +kernel
  have e3 : ((1 : Int32)).toInt = 1 := by decide +kernel
  by_cases c1 : (-900 : Int32) ≤ -v
  · rw [if_pos c1]
    by_cases c2 : -v ≤ 900
    · rw [if_pos c2]
      rw [Int32.le_iff_toInt_le, e1, h3] at c1
      rw [Int32.le_iff_toInt_le, e2, h3] at c2
      rw [h3]
      omega
    · rw [if_neg c2]
      rw [Int32.le_iff_toInt_le, e2, h3] at c2
      rw [Int32.toInt_sub, h3, e3, Int.bmod_def]
      omega
  · rw [if_neg c1]
    rw [Int32.le_iff_toInt_le, e1, h3] at c1
    rw [Int32.toInt_add, h3, e3, Int.bmod_def]
    omega
theorem mx_rg {x y : Int32} (hx : rg x) (hy : rg y) : rg (mx x y) := by
  unfold mx
  by_cases h : x < y
  · rw [if_pos h]; exact hy
  · rw [if_neg h]; exact hx
theorem gm_rg {tf : Nat → Nat} {T : Nat → Int32} {x : Nat} : ∀ k : Nat, (∀ j, j ≤ k → rg (T (tf (x * 6 + j)))) → rg (gm tf T x k)
  | 0, h => B32_rg (h 0 (Nat.le_refl _))
  | k + 1, h => mx_rg (gm_rg k (fun j hj => h j (Nat.le_succ_of_le hj))) (B32_rg (h (k + 1) (Nat.le_refl _)))
/-- the cut: once 999 is reached, no move makes it more -/
theorem gm_cut {tf : Nat → Nat} {T : Nat → Int32} {x k : Nat} (h9 : (999 : Int32) ≤ gm tf T x k) : ∀ i : Nat, (∀ j, j ≤ k + i → rg (T (tf (x * 6 + j)))) → gm tf T x (k + i) = gm tf T x k
  | 0, _ => rfl
  | i + 1, h => by
    have ih := gm_cut h9 i (fun j hj => h j (by omega))
    show mx (gm tf T x (k + i)) (gv tf T x (k + i + 1)) = _
    rw [ih]
    have hr : rg (gv tf T x (k + i + 1)) := B32_rg (h _ (by omega))
    unfold mx
    rw [if_neg]
    intro hc
    have h2 := hr.2
    rw [Int32.le_iff_toInt_le] at h9 h2
    rw [Int32.lt_iff_toInt_lt] at hc
    omega
theorem vv_rg {wv lo : Nat → Int32} {cf tf : Nat → Nat} {n : Nat} (hw : ∀ x, x < n → rg (wv x)) (ht : ∀ x, x < n → ∀ j, j < cf x → tf (x * 6 + j) < n) : ∀ d x : Nat, x < n → rg (vv wv lo cf tf d x)
  | 0, x, hx => by
    show rg (if cf x = 0 then (if lo x = 0 then 0 else (-1000)) else wv x)
    by_cases h : cf x = 0
    · rw [if_pos h]
      by_cases h2 : lo x = 0
      · rw [if_pos h2]; exact ⟨by decide +kernel, by decide +kernel⟩
      · rw [if_neg h2]; exact ⟨by decide +kernel, by decide +kernel⟩
    · rw [if_neg h]; exact hw x hx
  | d + 1, x, hx => by
    show rg (if cf x = 0 then (if lo x = 0 then 0 else (-1000)) else gm tf (vv wv lo cf tf d) x (cf x - 1))
    by_cases h : cf x = 0
    · rw [if_pos h]
      by_cases h2 : lo x = 0
      · rw [if_pos h2]; exact ⟨by decide +kernel, by decide +kernel⟩
      · rw [if_neg h2]; exact ⟨by decide +kernel, by decide +kernel⟩
    · rw [if_neg h]
      exact gm_rg _ (fun j hj => vv_rg hw ht d _ (ht x hx j (by omega)))
theorem gv_congr {tf : Nat → Nat} {T T' : Nat → Int32} {x j : Nat} (h : T (tf (x * 6 + j)) = T' (tf (x * 6 + j))) : gv tf T x j = gv tf T' x j := by unfold gv; rw [h]
theorem gm_congr {tf : Nat → Nat} {T T' : Nat → Int32} {x : Nat} : ∀ k : Nat, (∀ j, j ≤ k → T (tf (x * 6 + j)) = T' (tf (x * 6 + j))) → gm tf T x k = gm tf T' x k
  | 0, h => gv_congr (h 0 (Nat.le_refl _))
  | k + 1, h => by
    show mx (gm tf T x k) (gv tf T x (k + 1)) = mx (gm tf T' x k) (gv tf T' x (k + 1))
    rw [gm_congr k (fun j hj => h j (Nat.le_succ_of_le hj)), gv_congr (h (k + 1) (Nat.le_refl _))]
theorem isn_in {x : Int32} {n : Nat} (hn : n < 2 ^ 31) : (isn x n = 1 ∧ ∃ j, j < n ∧ x = nI j) ∨ (isn x n = 0 ∧ ∀ j, j < n → x ≠ nI j) := by
  unfold isn
  rcases pk_ix x hn with h | h | ⟨j, hj, rfl⟩
  · refine Or.inr ⟨if_pos h, fun j hj e => ?_⟩
    rw [e] at h
    exact nI_pos (by omega) h
  · refine Or.inr ⟨?_, fun j hj e => ?_⟩
    · by_cases h0 : x < 0
      · exact if_pos h0
      · rw [if_neg h0, if_pos h]
    · rw [e] at h
      exact nI_ge hj hn h
  · refine Or.inl ⟨?_, j, hj, rfl⟩
    rw [if_neg (nI_pos (by omega)), if_neg (nI_ge hj hn)]
