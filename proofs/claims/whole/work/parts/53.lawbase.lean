/-! THE CLAIM OUT OF ONE WALK OF THE LAW'S BODY. Your part is whole_start (and what it stands on); all else here is the same for every law, but numbers. -/
def R_law : String := "GraphSearchLaw"
def lw_P (b : Addr) (xs : List Int32) (args : Array Value) (s : State) : Prop := args = #[.ref b] ∧ s.IntsAt b xs ∧ xs.length ≤ 2049 ∧ (Jvm.Cond.and given_1 narrow_1).before args s = true
def lw_Q (_ : Array Value) (s : State) (o : Outcome) (t : State) : Prop := o = .returned (some (.int 1)) ∧ Framed s o t [] 601024 7293000
def lw_Z (below : List Frame) (a : Array Value) (s : State) : State → Prop := fun t => ∃ o, t.status = .running ∧ Ended t below o ∧ lw_Q a s o t
/-- the law's own end, with 1 on the stack, nothing written that was there before, its room as the claim has it -/
theorem lw_ret {p : Program} {l : Launch} {e : Env} {s : State} {m : MethodId} {below : List Frame} {meth : Method} {c : Code} {b : Nat} (hx : p.tables.exec = Jvm.exec) (hb : c.code = code) (hr : meth.sig.returnType = ret) (hlocks : meth.locks = false) {pc : Nat} {H : Heap} {ls : Array Slot} (hdg : decode code pc = .ok (.ireturn, 1)) : W p l e room_1 s m #[Value.ref b] below meth c H [] 601024 7293000 (lw_Z below #[Value.ref b] s) (F0 m pc ls [.int 1]) := by
  intro T hT X
  obtain ⟨fs, hret, hrun, hended, hW, hframe⟩ := X.leave (v := some (.int 1)) (hlocks := hlocks) (fun h => by rw [hr] at h; cases h)
  have hmeth' : T.vm.method? m = some meth := X.method'
  refine ⟨T.setFrames fs, ?_, .returned (some (.int 1)), hrun, hended, rfl, ⟨_, rfl⟩, hW, hframe⟩
  jvm_step X.here [X.here.top, hx, hb, hdg, hmeth', hr, ret, narrow_b1]
  (try refine ⟨rfl, ?_⟩); (try refine ⟨rfl, ?_⟩)
  first | (intro acts; rw [hret _ acts rfl rfl rfl]) | rw [hret _ _ rfl rfl rfl]
  exact Steps.refl _
/-- what holds at the law's entry: the machine, the code, the tables' words (any of lw_tbl by 'hts w (by decide +kernel)'), the script of L ints xs at the cell b, what the Statement gives of the start (any of its parts by flat_of_before) -/
def lw_At (p : Program) (s : State) (m : MethodId) (meth : Method) (c : Code) (b L : Nat) (xs : Nat → Int32) : Prop :=
  p.tables.exec = Jvm.exec ∧ c.code = code ∧ meth.sig.returnType = ret ∧ c.maxLocals = 7 ∧ s.vm.findClass R_law = some m.cls ∧ (∀ w ∈ lw_tbl, w.before #[Value.ref b] s = true) ∧ va_X b L xs s s.heap ∧ b < s.heap.size ∧ meth.locks = false ∧ (Jvm.Cond.and given_1 narrow_1).before #[Value.ref b] s = true
set_option maxHeartbeats 4000000 in
set_option maxRecDepth 100000 in
theorem kL_cell (l : Launch) (b L : Nat) (xs : Nat → Int32) (hL : L ≤ 2049) : Met l yL_cell wsL_cell ({ frames := 0, cells := 0, slots := 0, locals := 0 }) (va_Pc [.ref b, .int (nI 0)] (fun U => va_X b L xs U U.heap)) (QcRead (if L = 0 then 0 else xs 0)) 0 0 (fun _ => False) := by
  refine Met.ofW (cc := cL_cell) (maxL := 2) (ret := (some .int)) (by decide) rfl ?_
  intro p e s m args below meth c s₁ B hml hv
  obtain ⟨rfl, hX⟩ := hv
  have hx := B.exec
  have hb := B.bytes
  have hr := B.returns
  have hlocks := B.notSynchronized
  have hbl : b < s.heap.size := by obtain ⟨scr, h1, -⟩ := hX; exact (Array.getElem?_eq_some_iff.mp h1).1
  have hS : va_S (fun _ => False) s.heap s.heap [] := va_S.rf
  have hl := lv_entry ([.ref b, .int (nI 0)]) (n := 2) (Nat.le_of_ble_eq_true rfl)
  rw [lg_entry_eq]
  generalize (lg_sl ([.ref b, .int (nI 0)]) ++ List.replicate (2 - (lg_sl ([.ref b, .int (nI 0)])).length) Slot.unset).toArray = ls at hl ⊢
  have hl : lv_has ls 2 [(0, .ref b), (1, .int (nI 0))] := hl
  refine lv_iload_n hx hb dL_cell_0 rfl (lv_at hl 1 rfl) ?_
  refine lv_aload_n hx hb dL_cell_1 rfl (lv_at hl 0 rfl) ?_
  refine va_slen hx hb hX hbl (fun h => h) hS dL_cell_2 ?_
  refine lv_icmp_ge (tgt := 12) hx hb dL_cell_3 (by decide) (fun h3 => ?_) (fun h3 => ?_)
  · have h0 : L = 0 := by rcases Nat.eq_zero_or_pos L with z | z; exact z; exact absurd h3 (nI_ge z (by omega))
    refine lv_iconst (v := 0) hx hb dL_cell_12 (by decide) ?_
    exact W.iret (v := 0) hx hb hr (fun t ht hW => ⟨by rw [if_pos h0], ht⟩) (fun _ h => nomatch h) dL_cell_13
  · have h0 : ¬ L = 0 := fun z => h3 (by rw [z]; exact Int32.le_refl _)
    refine lv_aload_n hx hb dL_cell_6 rfl (lv_at hl 0 rfl) ?_
    refine lv_iload_n hx hb dL_cell_7 rfl (lv_at hl 1 rfl) ?_
    refine ga_sld hx hb hX hbl (fun h => h) hS 0 (Nat.pos_of_ne_zero h0) hL dL_cell_8 ?_
    refine lv_goto (tgt := 13) hx hb dL_cell_9 (by decide) ?_
    exact W.iret (v := (xs 0)) hx hb hr (fun t ht hW => ⟨by rw [if_neg h0], ht⟩) (fun _ h => nomatch h) dL_cell_13
set_option maxHeartbeats 4000000 in
set_option maxRecDepth 100000 in
theorem kL_line_no (l : Launch) (dC : Nat → ClassId) (dI : Nat → Nat → Nat) (cI cZ cA cJ : ClassId) (a : Nat → Nat) (o : Nat) (fo : Nat → Int64) (sz : Nat) (n : Nat) (am : Nat) (rf : Nat) (mk : Nat) (wv : Nat → Int32) (lo : Nat → Int32) (cf : Nat → Nat) (tf : Nat → Nat) (T : Nat → Nat → Int32) (mt : Nat → Nat) (im : Nat → Int32) (j d : Nat) (v : Int32) (hn4 : n ≤ 400) (hj : j < n) (hd : d < 8) (hi : v < 0 ∨ nI d < v) : Met l yL_line wsL_line ({ frames := 8, cells := 0, slots := 0, locals := 138 }) (va_Pc [.ref (a 0), .int (nI j), .int (nI d), .int v, .ref o] (WP dC dI (GJ cI cZ cA cJ) (XW cI cZ cA a n am rf mk wv lo cf tf T mt im ++ OW o cJ fo) sz)) (va_Qi (fun r (_ : Unit) => r = 0) (fun _ => WQ dC dI (GJ cI cZ cA cJ) (va_A (XW cI cZ cA a n am rf mk wv lo cf tf T mt im ++ OW o cJ fo) sz) (XW cI cZ cA a n am rf mk wv lo cf tf T mt im ++ OW o cJ (vp_updL fo 0 (-1)))) (va_A (XW cI cZ cA a n am rf mk wv lo cf tf T mt im ++ OW o cJ fo) sz)) 0 0 (va_A (XW cI cZ cA a n am rf mk wv lo cf tf T mt im ++ OW o cJ fo) sz) := by
  refine va_MetW (cc := cL_line) (maxL := 6) (ret := (some .int)) (hh := [(0, 12, 15, 13)]) (by decide) rfl ?_
  intro p e s m args below meth c s₁ B hml hv
  obtain ⟨rfl, hsz, hP, hK, hD0⟩ := hv
  have hx := B.exec
  have hb := B.bytes
  have hr := B.returns
  have hts := atoms_spec (ws := wsL_line) B.pre
  have hown : s.vm.findClass RL = some m.cls := findClass_of_methodNamed B.named
  have hlocks := B.notSynchronized
  subst hsz
  have hD := hD0.self (sz := s.heap.size)
  generalize hAe : va_A (XW cI cZ cA a n am rf mk wv lo cf tf T mt im ++ OW o cJ fo) s.heap.size = A at hD ⊢
  have hA : ∀ q : Nat, s.heap.size ≤ q → A q := fun q h => by rw [← hAe]; exact Or.inr h
  have hS : va_S A s.heap s.heap [] := va_S.rf
  have hP : va_P (dC, dI) vwCl (XW cI cZ cA a n am rf mk wv lo cf tf T mt im ++ OW o cJ fo) s.heap := hP
  have hKg := hK.sub (tys' := GT cI cZ cA) [0, 1, 2] rfl
  have hl := lv_entry ([.ref (a 0), .int (nI j), .int (nI d), .int v, .ref o]) (n := 6) (Nat.le_of_ble_eq_true rfl)
  rw [lg_entry_eq]
  generalize (lg_sl ([.ref (a 0), .int (nI j), .int (nI d), .int v, .ref o]) ++ List.replicate (6 - (lg_sl ([.ref (a 0), .int (nI j), .int (nI d), .int v, .ref o])).length) Slot.unset).toArray = ls at hl ⊢
  have hl : lv_has ls 6 [(0, .ref (a 0)), (1, .int (nI j)), (2, .int (nI d)), (3, .int v), (4, .ref o)] := hl
  refine lv_aload hx hb dL_line_0 (lv_at hl 4 rfl) ?_
  refine lv_iconst (v := 0) hx hb dL_line_2 (by decide) ?_
  refine lv_aload_n hx hb dL_line_3 rfl (lv_at hl 0 rfl) ?_
  refine lv_iload_n hx hb dL_line_4 rfl (lv_at hl 1 rfl) ?_
  refine lv_iload_n hx hb dL_line_5 rfl (lv_at hl 2 rfl) ?_
  refine lv_iload_n hx hb dL_line_6 rfl (lv_at hl 3 rfl) ?_
  refine W.callR (r := (-1)) (W.runV (As := [.int (nI j), .int (nI d), .int v]) (rest := [.int 0, .ref o]) ⟨hx, hb, hml, hown, hts⟩ (kX0_line_no l dC dI cI cZ cA a n am rf mk wv lo cf tf T mt im j d v hn4 hj hd hi) (cwV 3 hts gL_line_X0_line rfl rfl rfl (by decide +kernel) ⟨Nat.le_of_ble_eq_true rfl, Nat.le_of_ble_eq_true rfl⟩) ⟨blindR, va_recv hKg (pL hP) (ci := 0) (q0 := 0) rfl rfl, preR (pL hP) hKg⟩ rfl rfl hl.1 rfl (lv_room (Nat.le_of_ble_eq_true rfl)) dL_line_7 ⟨Nat.zero_le _, Nat.zero_le _⟩) ?_
  refine W.eq (g2 := F0 m 10 ls [.int (-1), .int 0, .ref o]) rfl ?_
  refine lv_i2l (v := (-1)) hx hb dL_line_10 (by decide +kernel) ?_
  refine va_last hx hb hK hP hD hS 16 3 OW_at rfl in_0 dL_line_11 (fun H locs hP hD hS => ?_)
  rw [sb_cl0, OW_set] at hP hD
  refine lv_goto (tgt := 19) hx hb dL_line_12 (by decide) ?_
  refine lv_iconst (v := 0) hx hb dL_line_19 (by decide) ?_
  exact W.iret (v := 0) hx hb hr (fun t ht hW => ⟨⟨0, (), rfl, rfl, by rw [ht]; exact hP, va_K.moved hW.alike hK, hD⟩, hS.F ht⟩) hS.2.2 dL_line_20
/-- what is left of the law behind a call: from the loop's step on -/
def LNx (p : Program) (l : Launch) (e : Env) (s : State) (m : MethodId) (below : List Frame) (meth : Method) (c : Code) (b : Nat) (dC : Nat → ClassId) (dI : Nat → Nat → Nat) (cI cZ cA cJ : ClassId) (a ad : Nat → Nat) (o i cells slots : Nat) : Prop :=
  ∀ (n am rf mk : Nat) (wv lo : Nat → Int32) (cf tf : Nat → Nat) (T : Nat → Nat → Int32) (mt : Nat → Nat) (im : Nat → Int32) (th : Nat) (vs : Nat → Int32) (nr : Nat → Nat) (fo : Nat → Int64), LInv n am rf mk wv lo cf tf T mt im → ∀ (H : Heap) (locs : List Loc), va_P (dC, dI) vwCl ((XW cI cZ cA a n am rf mk wv lo cf tf T mt im ++ OW o cJ fo) ++ MW cI cZ ad th n wv lo cf tf vs nr) H → va_D (fun q : Nat => s.heap.size ≤ q) ((XW cI cZ cA a n am rf mk wv lo cf tf T mt im ++ OW o cJ fo) ++ MW cI cZ ad th n wv lo cf tf vs nr) → va_S (fun q : Nat => s.heap.size ≤ q) s.heap H locs → ∀ ls : Array Slot, lv_has ls 7 [(0, .ref b), (1, .ref (a 0)), (2, .ref (ad 0)), (3, .ref o), (4, .int (nI i))] → W p l e room_1 s m #[Value.ref b] below meth c H locs cells slots (lw_Z below #[Value.ref b] s) (F0 m 927 ls [])
theorem assocP {D : va_G} {cl : List vw_C} {x y z : va_W} {H : Heap} (h : va_P D cl ((x ++ y) ++ z) H) : va_P D cl (x ++ (y ++ z)) H := by rw [← List.append_assoc]; exact h
theorem assocD {A : Nat → Prop} {x y z : va_W} (h : va_D A ((x ++ y) ++ z)) : va_D A (x ++ (y ++ z)) := by rw [← List.append_assoc]; exact h
theorem cossaP {D : va_G} {cl : List vw_C} {x y z : va_W} {H : Heap} (h : va_P D cl (x ++ (y ++ z)) H) : va_P D cl ((x ++ y) ++ z) H := by rw [List.append_assoc]; exact h
theorem cossaD {A : Nat → Prop} {x y z : va_W} (h : va_D A (x ++ (y ++ z))) : va_D A ((x ++ y) ++ z) := by rw [List.append_assoc]; exact h
