/-! The reference: its small methods. -/
theorem zSt_up {r : xRS} {t : Nat} : ∀ {n m : Nat}, zSt r t n = true → n ≤ m → zSt r t m = true
  | n, 0, h, hm => by
    have : n = 0 := by omega
    subst this
    exact h
  | n, m + 1, h, hm => by
    by_cases e : n = m + 1
    · subst e; exact h
    · show (zSt r t m || _) = true
      rw [zSt_up h (by omega)]
      rfl
set_option maxHeartbeats 4000000 in
set_option maxRecDepth 100000 in
theorem m_M_thrown (l : Launch) (dC : Nat → ClassId) (dI : Nat → Nat → Nat) (k : Nat → ClassId) (a : Nat → Nat) (r : xRS) : Met l y_M_thrown w_M_thrown (rmx 0 0 0 0) (mRc dC dI k a r [.ref (a 0)]) (vp_Si (fun o => o = zE r)) 0 0 (fun _ => False) := by
  refine Met.ofW (cc := c_M_thrown) (maxL := 1) (ret := (some .int)) (by decide) rfl ?_
  intro p e s m args below meth c s₁ B hml hv
  obtain ⟨rfl, hP, hK⟩ := hv
  have hx := B.exec
  have hb := B.bytes
  have hr := B.returns
  have hts := atoms_spec (ws := w_M_thrown) B.pre
  have hB : ∀ w ∈ BIG, w.before _ s = true := fun w h => hts w (List.mem_cons_of_mem _ h)
  have hown : s.vm.findClass R_M = some m.cls := findClass_of_methodNamed B.named
  have hlocks := B.notSynchronized
  have hl := lv_entry ([.ref (a 0)]) (n := 1) (Nat.le_of_ble_eq_true rfl)
  rw [lg_entry_eq]
  generalize (lg_sl ([.ref (a 0)]) ++ List.replicate (1 - (lg_sl ([.ref (a 0)])).length) Slot.unset).toArray = ls at hl ⊢
  have hl : lv_has ls 1 [(0, .ref (a 0))] := hl
  refine lv_aload_n hx hb d_M_thrown_0 rfl (lv_at hl 0 rfl) ?_
  refine va_get (D := (dC, dI)) (ci := 2) (v := .int (zE r)) (C := R_M) (T := F_M) (N := 11) hx hb hB in_M hown hK hP 0 rfl rfl 0 (by decide) (hB _ bw_355) (fun _ h9 => h9) rfl d_M_thrown_1 ?_
  exact W.iret (v := zE r) hx hb hr (fun t ht hW => ⟨_, rfl, rfl, ht⟩) (fun q h => nomatch h) d_M_thrown_4
set_option maxHeartbeats 4000000 in
set_option maxRecDepth 100000 in
theorem m_M_in (l : Launch) (v8 b8 c8 : Int64) : Met l y_M_in w_M_in (rmx 0 0 0 0) (fun v _ => v = ([.long v8, .long b8, .long c8] : List Value).toArray) (vp_Si (fun o => o = bI (decide (b8 ≤ v8 ∧ v8 ≤ c8)))) 0 0 (fun _ => False) := by
  refine Met.ofW (cc := c_M_in) (maxL := 6) (ret := (some .boolean)) (by decide) rfl ?_
  intro p e s m args below meth c s₁ B hml hv
  obtain rfl := hv
  have hx := B.exec
  have hb := B.bytes
  have hr := B.returns
  have hts := atoms_spec (ws := w_M_in) B.pre
  have hB : ∀ w ∈ BIG, w.before _ s = true := fun w h => hts w (List.mem_cons_of_mem _ h)
  have hown : s.vm.findClass R_M = some m.cls := findClass_of_methodNamed B.named
  have hlocks := B.notSynchronized
  have hl := lv_entry ([.long v8, .long b8, .long c8]) (n := 6) (Nat.le_of_ble_eq_true rfl)
  rw [lg_entry_eq]
  generalize (lg_sl ([.long v8, .long b8, .long c8]) ++ List.replicate (6 - (lg_sl ([.long v8, .long b8, .long c8])).length) Slot.unset).toArray = ls at hl ⊢
  have hl : lv_has ls 6 [(0, .long v8), (2, .long b8), (4, .long c8)] := hl
  refine lv_lload_n hx hb d_M_in_0 rfl (lv_at hl 0 rfl) ?_
  refine lv_lload_n hx hb d_M_in_1 rfl (lv_at hl 1 rfl) ?_
  refine W.lcmp hx hb d_M_in_2 ?_
  refine lv_if_lt hx hb d_M_in_3 rfl (fun h9 => ?_) (fun h9 => ?_)
  · have h8 : v8 < b8 := (lg_cmp_lt v8 b8).mp h9
    have h5 : decide (b8 ≤ v8 ∧ v8 ≤ c8) = false := decide_eq_false (fun q => by have h1 := q.1; rw [Int64.le_iff_toInt_le] at h1; rw [Int64.lt_iff_toInt_lt] at h8; omega)
    refine lv_iconst (v := bI (decide (b8 ≤ v8 ∧ v8 ≤ c8))) hx hb d_M_in_17 (by rw [h5]; decide) ?_
    exact W.zret (v := bI (decide (b8 ≤ v8 ∧ v8 ≤ c8))) hx hb hr (bI_nar _) (fun t ht hW => ⟨_, rfl, rfl, ht⟩) (fun q h => nomatch h) d_M_in_18
  · have h8 : b8 ≤ v8 := by
      have h1 : ¬ v8 < b8 := fun q => h9 ((lg_cmp_lt v8 b8).mpr q)
      rw [Int64.lt_iff_toInt_lt] at h1; rw [Int64.le_iff_toInt_le]; omega
    refine lv_lload_n hx hb d_M_in_6 rfl (lv_at hl 0 rfl) ?_
    refine lv_lload hx hb d_M_in_7 (lv_at hl 2 rfl) ?_
    refine W.lcmp hx hb d_M_in_9 ?_
    refine lv_if_gt hx hb d_M_in_10 rfl (fun h7 => ?_) (fun h7 => ?_)
    · have h6 : c8 < v8 := (lg_cmp_gt v8 c8).mp h7
      have h5 : decide (b8 ≤ v8 ∧ v8 ≤ c8) = false := decide_eq_false (fun q => by have h1 := q.2; rw [Int64.le_iff_toInt_le] at h1; rw [Int64.lt_iff_toInt_lt] at h6; omega)
      refine lv_iconst (v := bI (decide (b8 ≤ v8 ∧ v8 ≤ c8))) hx hb d_M_in_17 (by rw [h5]; decide) ?_
      exact W.zret (v := bI (decide (b8 ≤ v8 ∧ v8 ≤ c8))) hx hb hr (bI_nar _) (fun t ht hW => ⟨_, rfl, rfl, ht⟩) (fun q h => nomatch h) d_M_in_18
    · have h6 : v8 ≤ c8 := by
        have h1 : ¬ c8 < v8 := fun q => h7 ((lg_cmp_gt v8 c8).mpr q)
        rw [Int64.lt_iff_toInt_lt] at h1; rw [Int64.le_iff_toInt_le]; omega
      have h5 : decide (b8 ≤ v8 ∧ v8 ≤ c8) = true := decide_eq_true ⟨h8, h6⟩
      refine lv_iconst (v := bI (decide (b8 ≤ v8 ∧ v8 ≤ c8))) hx hb d_M_in_13 (by rw [h5]; decide) ?_
      refine lv_goto hx hb d_M_in_14 rfl ?_
      exact W.zret (v := bI (decide (b8 ≤ v8 ∧ v8 ≤ c8))) hx hb hr (bI_nar _) (fun t ht hW => ⟨_, rfl, rfl, ht⟩) (fun q h => nomatch h) d_M_in_18
set_option maxHeartbeats 4000000 in
set_option maxRecDepth 100000 in
theorem m_M_isOne (l : Launch) (x : Int32) : Met l y_M_isOne w_M_isOne (rmx 1 0 0 40) (fun v _ => v = ([.int x] : List Value).toArray) (vp_Si (fun o => o = bI (ix 8 x).isSome)) 0 0 (fun _ => False) := by
  refine Met.ofW (cc := c_M_isOne) (maxL := 1) (ret := (some .boolean)) (by decide) rfl ?_
  intro p e s m args below meth c s₁ B hml hv
  obtain rfl := hv
  have hx := B.exec
  have hb := B.bytes
  have hr := B.returns
  have hts := atoms_spec (ws := w_M_isOne) B.pre
  have hB : ∀ w ∈ BIG, w.before _ s = true := fun w h => hts w (List.mem_cons_of_mem _ h)
  have hown : s.vm.findClass R_M = some m.cls := findClass_of_methodNamed B.named
  have hlocks := B.notSynchronized
  have hl := lv_entry ([.int x]) (n := 1) (Nat.le_of_ble_eq_true rfl)
  rw [lg_entry_eq]
  generalize (lg_sl ([.int x]) ++ List.replicate (1 - (lg_sl ([.int x])).length) Slot.unset).toArray = ls at hl ⊢
  have hl : lv_has ls 1 [(0, .int x)] := hl
  refine lv_iload_n hx hb d_M_isOne_0 rfl (lv_at hl 0 rfl) ?_
  refine lv_i2l hx hb d_M_isOne_1 rfl ?_
  refine lv_lconst (v := 0) hx hb d_M_isOne_2 (by decide) ?_
  refine lv_ldc2 hx hb hown (hB _ bw_390) d_M_isOne_3 ?_
  refine vp_callSi (va_Run.run (va_runS (As := [.long x.toInt64, .long 0, .long 7]) (rest := []) ⟨hx, hb, hml, hown, hB⟩ (m_M_in l x.toInt64 0 7) (va_cwS 3 hB (BIG_SS bw_391 bw_392 bw_18 bw_393) rfl rfl rfl ⟨by decide, by decide, by decide +kernel⟩ ⟨Nat.le_of_ble_eq_true rfl, Nat.le_of_ble_eq_true rfl⟩) preEq rfl rfl hl.1 rfl (lv_room (Nat.le_of_ble_eq_true rfl)) d_M_isOne_6 ⟨Nat.zero_le _, Nat.zero_le _⟩)) (fun r7 hr7 => ?_)
  exact W.zret (v := r7) hx hb hr (by rw [hr7]; exact bI_nar _) (fun t ht hW => ⟨_, rfl, by rw [hr7, in_ix (n := 7) (by decide)], ht⟩) (fun q h => nomatch h) d_M_isOne_9
set_option maxHeartbeats 4000000 in
set_option maxRecDepth 100000 in
theorem m_M_isCell (l : Launch) (x : Int32) : Met l y_M_isCell w_M_isCell (rmx 1 0 0 40) (fun v _ => v = ([.int x] : List Value).toArray) (vp_Si (fun o => o = bI (ix 32 x).isSome)) 0 0 (fun _ => False) := by
  refine Met.ofW (cc := c_M_isCell) (maxL := 1) (ret := (some .boolean)) (by decide) rfl ?_
  intro p e s m args below meth c s₁ B hml hv
  obtain rfl := hv
  have hx := B.exec
  have hb := B.bytes
  have hr := B.returns
  have hts := atoms_spec (ws := w_M_isCell) B.pre
  have hB : ∀ w ∈ BIG, w.before _ s = true := fun w h => hts w (List.mem_cons_of_mem _ h)
  have hown : s.vm.findClass R_M = some m.cls := findClass_of_methodNamed B.named
  have hlocks := B.notSynchronized
  have hl := lv_entry ([.int x]) (n := 1) (Nat.le_of_ble_eq_true rfl)
  rw [lg_entry_eq]
  generalize (lg_sl ([.int x]) ++ List.replicate (1 - (lg_sl ([.int x])).length) Slot.unset).toArray = ls at hl ⊢
  have hl : lv_has ls 1 [(0, .int x)] := hl
  refine lv_iload_n hx hb d_M_isCell_0 rfl (lv_at hl 0 rfl) ?_
  refine lv_i2l hx hb d_M_isCell_1 rfl ?_
  refine lv_lconst (v := 0) hx hb d_M_isCell_2 (by decide) ?_
  refine lv_ldc2 hx hb hown (hB _ bw_407) d_M_isCell_3 ?_
  refine vp_callSi (va_Run.run (va_runS (As := [.long x.toInt64, .long 0, .long 31]) (rest := []) ⟨hx, hb, hml, hown, hB⟩ (m_M_in l x.toInt64 0 31) (va_cwS 3 hB (BIG_SS bw_391 bw_392 bw_18 bw_393) rfl rfl rfl ⟨by decide, by decide, by decide +kernel⟩ ⟨Nat.le_of_ble_eq_true rfl, Nat.le_of_ble_eq_true rfl⟩) preEq rfl rfl hl.1 rfl (lv_room (Nat.le_of_ble_eq_true rfl)) d_M_isCell_6 ⟨Nat.zero_le _, Nat.zero_le _⟩)) (fun r7 hr7 => ?_)
  exact W.zret (v := r7) hx hb hr (by rw [hr7]; exact bI_nar _) (fun t ht hW => ⟨_, rfl, by rw [hr7, in_ix (n := 31) (by decide)], ht⟩) (fun q h => nomatch h) d_M_isCell_9
set_option maxHeartbeats 4000000 in
set_option maxRecDepth 100000 in
theorem m_M_fails_t (l : Launch) (dC : Nat → ClassId) (dI : Nat → Nat → Nat) (k : Nat → ClassId) (a : Nat → Nat) (sz : Nat) (r : xRS) (c8 : Int32) (hE : zE r = 0) (hc : c8 ≠ 0) : Met l y_M_fails w_M_fails (rmx 0 0 0 0) (mPc dC dI k a sz r [.ref (a 0), .int (bI true), .int c8]) (va_Qi (fun o u => o = bI true ∧ u = zErr r c8) (mB dC dI k a) (va_A (mW k a r) sz)) 0 0 (va_A (mW k a r) sz) := by
  refine Met.ofW (cc := c_M_fails) (maxL := 3) (ret := (some .boolean)) (by decide) rfl ?_
  intro p e s m args below meth c s₁ B hml hv
  obtain ⟨rfl, hsz, hP, hK, hD0⟩ := hv
  have hx := B.exec
  have hb := B.bytes
  have hr := B.returns
  have hts := atoms_spec (ws := w_M_fails) B.pre
  have hB : ∀ w ∈ BIG, w.before _ s = true := fun w h => hts w (List.mem_cons_of_mem _ h)
  have hown : s.vm.findClass R_M = some m.cls := findClass_of_methodNamed B.named
  have hlocks := B.notSynchronized
  have hl := lv_entry ([.ref (a 0), .int (bI true), .int c8]) (n := 3) (Nat.le_of_ble_eq_true rfl)
  rw [lg_entry_eq]
  generalize (lg_sl ([.ref (a 0), .int (bI true), .int c8]) ++ List.replicate (3 - (lg_sl ([.ref (a 0), .int (bI true), .int c8])).length) Slot.unset).toArray = ls at hl ⊢
  have hl : lv_has ls 3 [(0, .ref (a 0)), (1, .int (bI true)), (2, .int c8)] := hl
  subst hsz
  have hD := hD0.self (sz := s.heap.size)
  generalize hAe : va_A (mW k a r) s.heap.size = A at hD ⊢
  have hA : ∀ q : Nat, s.heap.size ≤ q → A q := fun q h => by rw [← hAe]; exact Or.inr h
  have hS : va_S A s.heap s.heap [] := va_S.rf
  have hDk := hD
  refine lv_iload_n hx hb d_M_fails_0 rfl (lv_at hl 1 rfl) ?_
  refine lv_if_eq hx hb d_M_fails_1 rfl (fun h9 => absurd h9 (by decide)) (fun _ => ?_)
  refine lv_aload_n hx hb d_M_fails_4 rfl (lv_at hl 0 rfl) ?_
  refine va_get (D := (dC, dI)) (ci := 2) (v := .int (zE r)) (C := R_M) (T := F_M) (N := 11) hx hb hB in_M hown hK hP 0 rfl rfl 0 (by decide) (hB _ bw_355) (fun _ h9 => h9) rfl d_M_fails_5 ?_
  refine lv_if_ne hx hb d_M_fails_8 rfl (fun h9 => absurd h9 (fun q => q hE)) (fun _ => ?_)
  refine lv_aload_n hx hb d_M_fails_11 rfl (lv_at hl 0 rfl) ?_
  refine lv_iload_n hx hb d_M_fails_12 rfl (lv_at hl 2 rfl) ?_
  refine va_put (D := (dC, dI)) (ci := 2) (v := .int c8) (ty := .int) (C := R_M) (T := F_M) (N := 11) hx hb hB in_M tf_M ty_M nm_M hown hK hP hD hS 0 rfl rfl 0 (by decide) (hB _ bw_355) (fun _ h9 => h9) rfl (by decide +kernel) rfl rfl (Nat.le_of_ble_eq_true rfl) d_M_fails_13 (fun H locs hP hD hS => ?_)
  have hP : va_P (dC, dI) vwC (mW k a (c8, zC r, zW r, zG r, zP r, zS r, zH r, zR r, zO r, zD r, zL r)) H := hP
  have hD : va_D A (mW k a (c8, zC r, zW r, zG r, zP r, zS r, zH r, zR r, zO r, zD r, zL r)) := hD
  refine lv_aload_n hx hb d_M_fails_16 rfl (lv_at hl 0 rfl) ?_
  refine va_get (D := (dC, dI)) (ci := 2) (v := .int (c8)) (C := R_M) (T := F_M) (N := 11) hx hb hB in_M hown hK hP 0 rfl rfl 0 (by decide) (hB _ bw_355) (fun _ h9 => h9) rfl d_M_fails_17 ?_
  refine lv_if_eq hx hb d_M_fails_20 rfl (fun h9 => absurd h9 (hc)) (fun _ => ?_)
  refine lv_iconst (v := bI true) hx hb d_M_fails_23 (by decide) ?_
  refine lv_goto hx hb d_M_fails_24 rfl ?_
  exact W.zret (v := bI true) hx hb hr (bI_nar _) (fun t ht hW => ⟨⟨bI true, zErr r c8, rfl, ⟨rfl, rfl⟩, by show va_P (dC, dI) vwC _ t.heap; rw [ht]; exact hP⟩, hS.F ht⟩) hS.2.2 d_M_fails_28
set_option maxHeartbeats 4000000 in
set_option maxRecDepth 100000 in
theorem m_M_fails_f (l : Launch) (dC : Nat → ClassId) (dI : Nat → Nat → Nat) (k : Nat → ClassId) (a : Nat → Nat) (sz : Nat) (r : xRS) (c8 : Int32) (hE : zE r = 0) : Met l y_M_fails w_M_fails (rmx 0 0 0 0) (mPc dC dI k a sz r [.ref (a 0), .int (bI false), .int c8]) (va_Qi (fun o u => o = bI false ∧ u = r) (mB dC dI k a) (va_A (mW k a r) sz)) 0 0 (va_A (mW k a r) sz) := by
  refine Met.ofW (cc := c_M_fails) (maxL := 3) (ret := (some .boolean)) (by decide) rfl ?_
  intro p e s m args below meth c s₁ B hml hv
  obtain ⟨rfl, hsz, hP, hK, hD0⟩ := hv
  have hx := B.exec
  have hb := B.bytes
  have hr := B.returns
  have hts := atoms_spec (ws := w_M_fails) B.pre
  have hB : ∀ w ∈ BIG, w.before _ s = true := fun w h => hts w (List.mem_cons_of_mem _ h)
  have hown : s.vm.findClass R_M = some m.cls := findClass_of_methodNamed B.named
  have hlocks := B.notSynchronized
  have hl := lv_entry ([.ref (a 0), .int (bI false), .int c8]) (n := 3) (Nat.le_of_ble_eq_true rfl)
  rw [lg_entry_eq]
  generalize (lg_sl ([.ref (a 0), .int (bI false), .int c8]) ++ List.replicate (3 - (lg_sl ([.ref (a 0), .int (bI false), .int c8])).length) Slot.unset).toArray = ls at hl ⊢
  have hl : lv_has ls 3 [(0, .ref (a 0)), (1, .int (bI false)), (2, .int c8)] := hl
  subst hsz
  have hD := hD0.self (sz := s.heap.size)
  generalize hAe : va_A (mW k a r) s.heap.size = A at hD ⊢
  have hA : ∀ q : Nat, s.heap.size ≤ q → A q := fun q h => by rw [← hAe]; exact Or.inr h
  have hS : va_S A s.heap s.heap [] := va_S.rf
  have hDk := hD
  refine lv_iload_n hx hb d_M_fails_0 rfl (lv_at hl 1 rfl) ?_
  refine lv_if_eq hx hb d_M_fails_1 rfl (fun _ => ?_) (fun h9 => absurd (by decide) h9)
  refine lv_aload_n hx hb d_M_fails_16 rfl (lv_at hl 0 rfl) ?_
  refine va_get (D := (dC, dI)) (ci := 2) (v := .int (zE r)) (C := R_M) (T := F_M) (N := 11) hx hb hB in_M hown hK hP 0 rfl rfl 0 (by decide) (hB _ bw_355) (fun _ h9 => h9) rfl d_M_fails_17 ?_
  refine lv_if_eq hx hb d_M_fails_20 rfl (fun _ => ?_) (fun h9 => absurd (hE) h9)
  refine lv_iconst (v := bI false) hx hb d_M_fails_27 (by decide) ?_
  exact W.zret (v := bI false) hx hb hr (bI_nar _) (fun t ht hW => ⟨⟨bI false, r, rfl, ⟨rfl, rfl⟩, by show va_P (dC, dI) vwC _ t.heap; rw [ht]; exact hP⟩, hS.F ht⟩) hS.2.2 d_M_fails_28
set_option maxHeartbeats 4000000 in
set_option maxRecDepth 100000 in
theorem m_M_last (l : Launch) (dC : Nat → ClassId) (dI : Nat → Nat → Nat) (k : Nat → ClassId) (a : Nat → Nat) (r : xRS) (j i : Nat) (hj : j < 8) (hi : i < 32) (h1 : 1 ≤ zP r j) (h5 : zP r j ≤ 5) : Met l y_M_last w_M_last (rmx 0 0 0 0) (mRc dC dI k a r [.ref (a 0), .int (nI j), .int (nI i)]) (vp_Si (fun o => o = nI (zAt r j i))) 0 0 (fun _ => False) := by
  refine Met.ofW (cc := c_M_last) (maxL := 3) (ret := (some .int)) (by decide) rfl ?_
  intro p e s m args below meth c s₁ B hml hv
  obtain ⟨rfl, hP, hK⟩ := hv
  have hx := B.exec
  have hb := B.bytes
  have hr := B.returns
  have hts := atoms_spec (ws := w_M_last) B.pre
  have hB : ∀ w ∈ BIG, w.before _ s = true := fun w h => hts w (List.mem_cons_of_mem _ h)
  have hown : s.vm.findClass R_M = some m.cls := findClass_of_methodNamed B.named
  have hlocks := B.notSynchronized
  have hl := lv_entry ([.ref (a 0), .int (nI j), .int (nI i)]) (n := 3) (Nat.le_of_ble_eq_true rfl)
  rw [lg_entry_eq]
  generalize (lg_sl ([.ref (a 0), .int (nI j), .int (nI i)]) ++ List.replicate (3 - (lg_sl ([.ref (a 0), .int (nI j), .int (nI i)])).length) Slot.unset).toArray = ls at hl ⊢
  have hl : lv_has ls 3 [(0, .ref (a 0)), (1, .int (nI j)), (2, .int (nI i))] := hl
  refine lv_iconst (v := nI 5) hx hb d_M_last_0 (by decide) ?_
  refine lv_iload_n hx hb d_M_last_1 rfl (lv_at hl 1 rfl) ?_
  refine lv_imul hx hb d_M_last_2 ?_
  refine W.eq (g2 := F0 m 3 ls [.int (nI (5 * j))]) (by rw [pk_mul]) ?_
  refine lv_aload_n hx hb d_M_last_3 rfl (lv_at hl 0 rfl) ?_
  refine va_get (D := (dC, dI)) (ci := 2) (v := .ref (a 4)) (C := R_M) (T := F_M) (N := 11) hx hb hB in_M hown hK hP 0 rfl rfl 4 (by decide) (hB _ bw_359) (fun _ h9 => h9) rfl d_M_last_4 ?_
  refine lv_iload_n hx hb d_M_last_7 rfl (lv_at hl 1 rfl) ?_
  refine va_iald hx hb hK hP 4 0 rfl rfl (pk_in j 8 (by omega)) d_M_last_8 ?_
  refine W.eq (g2 := F0 m 9 ls [.int (nI (zP r j)), .int (nI (5 * j))]) (by rw [cl_nI (by omega)]) ?_
  refine lv_iadd hx hb d_M_last_9 ?_
  refine W.eq (g2 := F0 m 10 ls [.int (nI ((5 * j) + (zP r j)))]) (by rw [nI_add]) ?_
  refine lv_iconst (v := nI 1) hx hb d_M_last_10 (by decide) ?_
  refine lv_isub hx hb d_M_last_11 ?_
  refine W.eq (g2 := F0 m 12 ls [.int (nI (((5 * j) + (zP r j)) - 1))]) (by rw [pk_sub (by omega)]) ?_
  refine lv_bipush (v := nI 32) hx hb d_M_last_12 (by decide) ?_
  refine lv_imul hx hb d_M_last_14 ?_
  refine W.eq (g2 := F0 m 15 ls [.int (nI ((((5 * j) + (zP r j)) - 1) * 32))]) (by rw [pk_mul]) ?_
  refine lv_iload_n hx hb d_M_last_15 rfl (lv_at hl 2 rfl) ?_
  refine lv_iadd hx hb d_M_last_16 ?_
  refine W.eq (g2 := F0 m 17 ls [.int (nI (((((5 * j) + (zP r j)) - 1) * 32) + i))]) (by rw [nI_add]) ?_
  exact W.iret (v := nI (((((5 * j) + (zP r j)) - 1) * 32) + i)) hx hb hr (fun t ht hW => ⟨_, rfl, rfl, ht⟩) (fun q h => nomatch h) d_M_last_17
set_option maxHeartbeats 4000000 in
set_option maxRecDepth 100000 in
theorem m_M_change (l : Launch) (dC : Nat → ClassId) (dI : Nat → Nat → Nat) (k : Nat → ClassId) (a : Nat → Nat) (sz : Nat) (r : xRS) (i : Nat) (x : Int64) (hi : i < 32) : Met l y_M_change w_M_change (rmx 0 0 0 0) (mPc dC dI k a sz r [.ref (a 0), .int (nI i), .long x]) (va_Qv (fun u => u = zChg r i x) (mB dC dI k a) (va_A (mW k a r) sz)) 0 0 (va_A (mW k a r) sz) := by
  refine Met.ofW (cc := c_M_change) (maxL := 4) (ret := none) (by decide) rfl ?_
  intro p e s m args below meth c s₁ B hml hv
  obtain ⟨rfl, hsz, hP, hK, hD0⟩ := hv
  have hx := B.exec
  have hb := B.bytes
  have hr := B.returns
  have hts := atoms_spec (ws := w_M_change) B.pre
  have hB : ∀ w ∈ BIG, w.before _ s = true := fun w h => hts w (List.mem_cons_of_mem _ h)
  have hown : s.vm.findClass R_M = some m.cls := findClass_of_methodNamed B.named
  have hlocks := B.notSynchronized
  have hl := lv_entry ([.ref (a 0), .int (nI i), .long x]) (n := 4) (Nat.le_of_ble_eq_true rfl)
  rw [lg_entry_eq]
  generalize (lg_sl ([.ref (a 0), .int (nI i), .long x]) ++ List.replicate (4 - (lg_sl ([.ref (a 0), .int (nI i), .long x])).length) Slot.unset).toArray = ls at hl ⊢
  have hl : lv_has ls 4 [(0, .ref (a 0)), (1, .int (nI i)), (2, .long x)] := hl
  subst hsz
  have hD := hD0.self (sz := s.heap.size)
  generalize hAe : va_A (mW k a r) s.heap.size = A at hD ⊢
  have hA : ∀ q : Nat, s.heap.size ≤ q → A q := fun q h => by rw [← hAe]; exact Or.inr h
  have hS : va_S A s.heap s.heap [] := va_S.rf
  have hDk := hD
  refine lv_aload_n hx hb d_M_change_0 rfl (lv_at hl 0 rfl) ?_
  refine va_get (D := (dC, dI)) (ci := 2) (v := .ref (a 1)) (C := R_M) (T := F_M) (N := 11) hx hb hB in_M hown hK hP 0 rfl rfl 1 (by decide) (hB _ bw_356) (fun _ h9 => h9) rfl d_M_change_1 ?_
  refine lv_iload_n hx hb d_M_change_4 rfl (lv_at hl 1 rfl) ?_
  refine lv_lload_n hx hb d_M_change_5 rfl (lv_at hl 2 rfl) ?_
  refine va_last hx hb hK hP hD hS 1 1 rfl rfl (pk_in i 32 (by omega)) d_M_change_6 (fun H locs hP hD hS => ?_)
  rw [cl_nI (by omega)] at hP
  have hP : va_P (dC, dI) vwC (mW k a (zE r, vp_updL (zC r) i x, zW r, zG r, zP r, zS r, zH r, zR r, zO r, zD r, zL r)) H := hP
  have hD : va_D A (mW k a (zE r, vp_updL (zC r) i x, zW r, zG r, zP r, zS r, zH r, zR r, zO r, zD r, zL r)) := mW_D hDk
  refine lv_aload_n hx hb d_M_change_7 rfl (lv_at hl 0 rfl) ?_
  refine va_get (D := (dC, dI)) (ci := 2) (v := .ref (a 3)) (C := R_M) (T := F_M) (N := 11) hx hb hB in_M hown hK hP 0 rfl rfl 3 (by decide) (hB _ bw_358) (fun _ h9 => h9) rfl d_M_change_8 ?_
  refine lv_iload_n hx hb d_M_change_11 rfl (lv_at hl 1 rfl) ?_
  refine lv_dup2_11 hx hb d_M_change_12 rfl rfl ?_
  refine va_iald hx hb hK hP 3 0 rfl rfl (pk_in i 32 (by omega)) d_M_change_13 ?_
  refine W.eq (g2 := F0 m 14 ls [.int (zG r i), .int (nI i), .ref (a 3)]) (by rw [cl_nI (by omega)]) ?_
  refine lv_iconst (v := nI 1) hx hb d_M_change_14 (by decide) ?_
  refine lv_iadd hx hb d_M_change_15 ?_
  refine va_iast hx hb hK hP hD hS 3 0 rfl rfl (pk_in i 32 (by omega)) d_M_change_16 (fun H locs hP hD hS => ?_)
  rw [cl_nI (by omega)] at hP
  have hP : va_P (dC, dI) vwC (mW k a (zE r, vp_updL (zC r) i x, zW r, upd (zG r) i ((zG r i) + (nI 1)), zP r, zS r, zH r, zR r, zO r, zD r, zL r)) H := hP
  have hD : va_D A (mW k a (zE r, vp_updL (zC r) i x, zW r, upd (zG r) i ((zG r i) + (nI 1)), zP r, zS r, zH r, zR r, zO r, zD r, zL r)) := mW_D hDk
  exact W.vret hx hb hr (fun t ht hW => ⟨⟨zChg r i x, rfl, rfl, by show va_P (dC, dI) vwC _ t.heap; rw [ht]; exact hP⟩, hS.F ht⟩) hS.2.2 d_M_change_17
set_option maxHeartbeats 4000000 in
set_option maxRecDepth 100000 in
theorem m_M_isStale (l : Launch) (dC : Nat → ClassId) (dI : Nat → Nat → Nat) (k : Nat → ClassId) (a : Nat → Nat) (r : xRS) (j : Nat) (hj : j < 8) : Met l y_M_isStale w_M_isStale (rmx 0 0 0 0) (mRc dC dI k a r [.ref (a 0), .int (nI j)]) (vp_Si (fun o => o = bI (zSt r j 32))) 0 0 (fun _ => False) := by
  refine Met.ofW (cc := c_M_isStale) (maxL := 3) (ret := (some .boolean)) (by decide) rfl ?_
  intro p e s m args below meth c s₁ B hml hv
  obtain ⟨rfl, hP, hK⟩ := hv
  have hx := B.exec
  have hb := B.bytes
  have hr := B.returns
  have hts := atoms_spec (ws := w_M_isStale) B.pre
  have hB : ∀ w ∈ BIG, w.before _ s = true := fun w h => hts w (List.mem_cons_of_mem _ h)
  have hown : s.vm.findClass R_M = some m.cls := findClass_of_methodNamed B.named
  have hlocks := B.notSynchronized
  have hl := lv_entry ([.ref (a 0), .int (nI j)]) (n := 3) (Nat.le_of_ble_eq_true rfl)
  rw [lg_entry_eq]
  generalize (lg_sl ([.ref (a 0), .int (nI j)]) ++ List.replicate (3 - (lg_sl ([.ref (a 0), .int (nI j)])).length) Slot.unset).toArray = ls at hl ⊢
  have hl : lv_has ls 3 [(0, .ref (a 0)), (1, .int (nI j))] := hl
  refine lv_iconst (v := nI 0) hx hb d_M_isStale_0 (by decide) ?_
  refine lv_istore_n hx hb d_M_isStale_1 rfl hl (by decide) rfl (fun ls hl => ?_)
  have hl : lv_has ls 3 [(2, .int (nI 0)), (0, .ref (a 0)), (1, .int (nI j))] := hl
  suffices key : ∀ n i (ls : Array Slot), i ≤ 32 → 32 - i = n → zSt r j i = false → lv_has ls 3 [(2, .int (nI i)), (0, .ref (a 0)), (1, .int (nI j))] → W p l e _ s m _ below meth c s.heap [] 0 0 (MQ below (vp_Si (fun o => o = bI (zSt r j 32))) _ s 0 0 (fun _ => False)) (F0 m 2 ls []) from key _ 0 ls (by omega) rfl rfl hl
  intro n
  induction n with
  | zero =>
    intro i ls hi hn hf hl
    have hie : i = 32 := by omega
    subst hie
    refine lv_iload_n hx hb d_M_isStale_2 rfl (lv_at hl 0 rfl) ?_
    refine lv_bipush (v := nI 32) hx hb d_M_isStale_3 (by decide) ?_
    refine lv_icmp_ge hx hb d_M_isStale_5 rfl (fun _ => ?_) (fun h9 => absurd (nI_le (Nat.le_refl 32) (by omega)) h9)
    refine lv_iconst (v := bI (zSt r j 32)) hx hb d_M_isStale_50 (by rw [hf]; decide) ?_
    exact W.zret (v := bI (zSt r j 32)) hx hb hr (bI_nar _) (fun t ht hW => ⟨_, rfl, rfl, ht⟩) (fun q h => nomatch h) d_M_isStale_51
  | succ n ih =>
    intro i ls hi hn hf hl
    have hlt : i < 32 := by omega
    have hs : zSt r j (i + 1) = (zSt r j i || (zR r (32 * j + i) && decide (zS r (32 * j + i) ≠ zG r i))) := rfl
    refine lv_iload_n hx hb d_M_isStale_2 rfl (lv_at hl 0 rfl) ?_
    refine lv_bipush (v := nI 32) hx hb d_M_isStale_3 (by decide) ?_
    refine lv_icmp_ge hx hb d_M_isStale_5 rfl (fun h9 => absurd h9 (nI_ge hlt (by omega))) (fun _ => ?_)
    refine lv_aload_n hx hb d_M_isStale_8 rfl (lv_at hl 1 rfl) ?_
    refine va_get (D := (dC, dI)) (ci := 2) (v := .ref (a 7)) (C := R_M) (T := F_M) (N := 11) hx hb hB in_M hown hK hP 0 rfl rfl 7 (by decide) (hB _ bw_362) (fun _ h9 => h9) rfl d_M_isStale_9 ?_
    refine lv_bipush (v := nI 32) hx hb d_M_isStale_12 (by decide) ?_
    refine lv_iload_n hx hb d_M_isStale_14 rfl (lv_at hl 2 rfl) ?_
    refine lv_imul hx hb d_M_isStale_15 ?_
    refine W.eq (g2 := F0 m 16 ls [.int (nI (32 * j)), .ref (a 7)]) (by rw [pk_mul]) ?_
    refine lv_iload_n hx hb d_M_isStale_16 rfl (lv_at hl 0 rfl) ?_
    refine lv_iadd hx hb d_M_isStale_17 ?_
    refine W.eq (g2 := F0 m 18 ls [.int (nI ((32 * j) + i)), .ref (a 7)]) (by rw [nI_add]) ?_
    refine va_zald hx hb hK hP 7 4 rfl rfl (pk_in ((32 * j) + i) 256 (by omega)) d_M_isStale_18 ?_
    refine W.eq (g2 := F0 m 19 ls [.int (bI (zR r ((32 * j) + i)))]) (by rw [cl_nI (by omega)]) ?_
    refine lv_if_eq hx hb d_M_isStale_19 rfl (fun h9 => ?_) (fun h9 => ?_)
    · have h8 : zR r (32 * j + i) = false := bI_ne.mp h9
      refine lv_iinc (k := 0) (v := nI (i + 1)) hx hb d_M_isStale_44 hl rfl (nI_1 i) (by decide) rfl (fun ls hl => ?_)
      have hl : lv_has ls 3 [(2, .int (nI (i + 1))), (0, .ref (a 0)), (1, .int (nI j))] := hl
      refine lv_goto hx hb d_M_isStale_47 rfl ?_
      exact ih (i + 1) ls (by omega) (by omega) (by rw [hs, hf, h8]; rfl) hl
    · have h8 : zR r (32 * j + i) = true := by cases hc : zR r (32 * j + i); exact absurd (bI_ne.mpr hc) h9; rfl
      refine lv_aload_n hx hb d_M_isStale_22 rfl (lv_at hl 1 rfl) ?_
      refine va_get (D := (dC, dI)) (ci := 2) (v := .ref (a 5)) (C := R_M) (T := F_M) (N := 11) hx hb hB in_M hown hK hP 0 rfl rfl 5 (by decide) (hB _ bw_360) (fun _ h9 => h9) rfl d_M_isStale_23 ?_
      refine lv_bipush (v := nI 32) hx hb d_M_isStale_26 (by decide) ?_
      refine lv_iload_n hx hb d_M_isStale_28 rfl (lv_at hl 2 rfl) ?_
      refine lv_imul hx hb d_M_isStale_29 ?_
      refine W.eq (g2 := F0 m 30 ls [.int (nI (32 * j)), .ref (a 5)]) (by rw [pk_mul]) ?_
      refine lv_iload_n hx hb d_M_isStale_30 rfl (lv_at hl 0 rfl) ?_
      refine lv_iadd hx hb d_M_isStale_31 ?_
      refine W.eq (g2 := F0 m 32 ls [.int (nI ((32 * j) + i)), .ref (a 5)]) (by rw [nI_add]) ?_
      refine va_iald hx hb hK hP 5 0 rfl rfl (pk_in ((32 * j) + i) 256 (by omega)) d_M_isStale_32 ?_
      refine W.eq (g2 := F0 m 33 ls [.int (zS r ((32 * j) + i))]) (by rw [cl_nI (by omega)]) ?_
      refine lv_aload_n hx hb d_M_isStale_33 rfl (lv_at hl 1 rfl) ?_
      refine va_get (D := (dC, dI)) (ci := 2) (v := .ref (a 3)) (C := R_M) (T := F_M) (N := 11) hx hb hB in_M hown hK hP 0 rfl rfl 3 (by decide) (hB _ bw_358) (fun _ h9 => h9) rfl d_M_isStale_34 ?_
      refine lv_iload_n hx hb d_M_isStale_37 rfl (lv_at hl 0 rfl) ?_
      refine va_iald hx hb hK hP 3 0 rfl rfl (pk_in i 32 (by omega)) d_M_isStale_38 ?_
      refine W.eq (g2 := F0 m 39 ls [.int (zG r i), .int (zS r ((32 * j) + i))]) (by rw [cl_nI (by omega)]) ?_
      refine lv_icmp_eq hx hb d_M_isStale_39 rfl (fun h7 => ?_) (fun h7 => ?_)
      · have h6 : decide (zS r (32 * j + i) ≠ zG r i) = false := decide_eq_false (fun q => q h7)
        refine lv_iinc (k := 0) (v := nI (i + 1)) hx hb d_M_isStale_44 hl rfl (nI_1 i) (by decide) rfl (fun ls hl => ?_)
        have hl : lv_has ls 3 [(2, .int (nI (i + 1))), (0, .ref (a 0)), (1, .int (nI j))] := hl
        refine lv_goto hx hb d_M_isStale_47 rfl ?_
        exact ih (i + 1) ls (by omega) (by omega) (by rw [hs, hf, h8, h6]; rfl) hl
      · have h6 : decide (zS r (32 * j + i) ≠ zG r i) = true := decide_eq_true h7
        have h5 : zSt r j (i + 1) = true := by rw [hs, h8, h6]; simp
        have h4 : zSt r j 32 = true := zSt_up h5 (by omega)
        refine lv_iconst (v := bI (zSt r j 32)) hx hb d_M_isStale_42 (by rw [h4]; decide) ?_
        exact W.zret (v := bI (zSt r j 32)) hx hb hr (bI_nar _) (fun t ht hW => ⟨_, rfl, rfl, ht⟩) (fun q h => nomatch h) d_M_isStale_43
set_option maxHeartbeats 4000000 in
set_option maxRecDepth 100000 in
theorem m_M_copy (l : Launch) (dC : Nat → ClassId) (dI : Nat → Nat → Nat) (k : Nat → ClassId) (a : Nat → Nat) (sz : Nat) (r : xRS) (f g : Nat) (hf : f + 32 ≤ 1280) (hg : g + 32 ≤ 1280) : Met l y_M_copy w_M_copy (rmx 0 0 0 0) (mPc dC dI k a sz r [.ref (a 0), .int (nI f), .int (nI g)]) (va_Qv (fun u => u = (zE r, zC r, zCpL (zW r) f g 32, zG r, zP r, zS r, zCpB (zH r) f g 32, zR r, zO r, zD r, zL r)) (mB dC dI k a) (va_A (mW k a r) sz)) 0 0 (va_A (mW k a r) sz) := by
  refine Met.ofW (cc := c_M_copy) (maxL := 4) (ret := none) (by decide) rfl ?_
  intro p e s m args below meth c s₁ B hml hv
  obtain ⟨rfl, hsz, hP, hK, hD0⟩ := hv
  have hx := B.exec
  have hb := B.bytes
  have hr := B.returns
  have hts := atoms_spec (ws := w_M_copy) B.pre
  have hB : ∀ w ∈ BIG, w.before _ s = true := fun w h => hts w (List.mem_cons_of_mem _ h)
  have hown : s.vm.findClass R_M = some m.cls := findClass_of_methodNamed B.named
  have hlocks := B.notSynchronized
  have hl := lv_entry ([.ref (a 0), .int (nI f), .int (nI g)]) (n := 4) (Nat.le_of_ble_eq_true rfl)
  rw [lg_entry_eq]
  generalize (lg_sl ([.ref (a 0), .int (nI f), .int (nI g)]) ++ List.replicate (4 - (lg_sl ([.ref (a 0), .int (nI f), .int (nI g)])).length) Slot.unset).toArray = ls at hl ⊢
  have hl : lv_has ls 4 [(0, .ref (a 0)), (1, .int (nI f)), (2, .int (nI g))] := hl
  subst hsz
  have hD := hD0.self (sz := s.heap.size)
  generalize hAe : va_A (mW k a r) s.heap.size = A at hD ⊢
  have hA : ∀ q : Nat, s.heap.size ≤ q → A q := fun q h => by rw [← hAe]; exact Or.inr h
  have hS : va_S A s.heap s.heap [] := va_S.rf
  have hDk := hD
  refine lv_iconst (v := nI 0) hx hb d_M_copy_0 (by decide) ?_
  refine lv_istore_n hx hb d_M_copy_1 rfl hl (by decide) rfl (fun ls hl => ?_)
  have hl : lv_has ls 4 [(3, .int (nI 0)), (0, .ref (a 0)), (1, .int (nI f)), (2, .int (nI g))] := hl
  suffices key : ∀ n i (H : Heap) (locs : List Loc) (ls : Array Slot), i ≤ 32 → 32 - i = n → lv_has ls 4 [(3, .int (nI i)), (0, .ref (a 0)), (1, .int (nI f)), (2, .int (nI g))] → va_P (dC, dI) vwC (mW k a (zE r, zC r, zCpL (zW r) f g i, zG r, zP r, zS r, zCpB (zH r) f g i, zR r, zO r, zD r, zL r)) H → va_S A s.heap H locs → W p l e _ s m _ below meth c H locs 0 0 (MQ below (va_Qv (fun u => u = (zE r, zC r, zCpL (zW r) f g 32, zG r, zP r, zS r, zCpB (zH r) f g 32, zR r, zO r, zD r, zL r)) (mB dC dI k a) A) _ s 0 0 A) (F0 m 2 ls []) from key _ 0 _ _ ls (by omega) rfl hl hP hS
  intro n
  induction n with
  | zero =>
    intro i H locs ls hi hn hl hP hS
    have hie : i = 32 := by omega
    subst hie
    refine lv_iload_n hx hb d_M_copy_2 rfl (lv_at hl 0 rfl) ?_
    refine lv_bipush (v := nI 32) hx hb d_M_copy_3 (by decide) ?_
    refine lv_icmp_ge hx hb d_M_copy_5 rfl (fun _ => ?_) (fun h9 => absurd (nI_le (Nat.le_refl 32) (by omega)) h9)
    exact W.vret hx hb hr (fun t ht hW => ⟨⟨_, rfl, rfl, by show va_P (dC, dI) vwC _ t.heap; rw [ht]; exact hP⟩, hS.F ht⟩) hS.2.2 d_M_copy_46
  | succ n ih =>
    intro i H locs ls hi hn hl hP hS
    have hlt : i < 32 := by omega
    have hD : va_D A (mW k a (zE r, zC r, zCpL (zW r) f g i, zG r, zP r, zS r, zCpB (zH r) f g i, zR r, zO r, zD r, zL r)) := mW_D hDk
    refine lv_iload_n hx hb d_M_copy_2 rfl (lv_at hl 0 rfl) ?_
    refine lv_bipush (v := nI 32) hx hb d_M_copy_3 (by decide) ?_
    refine lv_icmp_ge hx hb d_M_copy_5 rfl (fun h9 => absurd h9 (nI_ge hlt (by omega))) (fun _ => ?_)
    refine lv_aload_n hx hb d_M_copy_8 rfl (lv_at hl 1 rfl) ?_
    refine va_get (D := (dC, dI)) (ci := 2) (v := .ref (a 6)) (C := R_M) (T := F_M) (N := 11) hx hb hB in_M hown hK hP 0 rfl rfl 6 (by decide) (hB _ bw_361) (fun _ h9 => h9) rfl d_M_copy_9 ?_
    refine lv_iload_n hx hb d_M_copy_12 rfl (lv_at hl 3 rfl) ?_
    refine lv_iload_n hx hb d_M_copy_13 rfl (lv_at hl 0 rfl) ?_
    refine lv_iadd hx hb d_M_copy_14 ?_
    refine W.eq (g2 := F0 m 15 ls [.int (nI (g + i)), .ref (a 6)]) (by rw [nI_add]) ?_
    refine lv_aload_n hx hb d_M_copy_15 rfl (lv_at hl 1 rfl) ?_
    refine va_get (D := (dC, dI)) (ci := 2) (v := .ref (a 6)) (C := R_M) (T := F_M) (N := 11) hx hb hB in_M hown hK hP 0 rfl rfl 6 (by decide) (hB _ bw_361) (fun _ h9 => h9) rfl d_M_copy_16 ?_
    refine lv_iload_n hx hb d_M_copy_19 rfl (lv_at hl 2 rfl) ?_
    refine lv_iload_n hx hb d_M_copy_20 rfl (lv_at hl 0 rfl) ?_
    refine lv_iadd hx hb d_M_copy_21 ?_
    refine W.eq (g2 := F0 m 22 ls [.int (nI (f + i)), .ref (a 6), .int (nI (g + i)), .ref (a 6)]) (by rw [nI_add]) ?_
    refine va_zald hx hb hK hP 6 4 rfl rfl (pk_in (f + i) 1280 (by omega)) d_M_copy_22 ?_
    refine W.eq (g2 := F0 m 23 ls [.int (bI ((zCpB (zH r) f g i) (f + i))), .int (nI (g + i)), .ref (a 6)]) (by rw [cl_nI (by omega)]) ?_
    refine va_zast hx hb hK hP hD hS 6 4 rfl rfl (pk_in (g + i) 1280 (by omega)) d_M_copy_23 (fun H locs hP hD hS => ?_)
    rw [cl_nI (by omega), bI_upd] at hP
    have hP : va_P (dC, dI) vwC (mW k a (zE r, zC r, zCpL (zW r) f g i, zG r, zP r, zS r, va_up (zCpB (zH r) f g i) (g + i) ((zCpB (zH r) f g i) (f + i)), zR r, zO r, zD r, zL r)) H := hP
    have hD : va_D A (mW k a (zE r, zC r, zCpL (zW r) f g i, zG r, zP r, zS r, va_up (zCpB (zH r) f g i) (g + i) ((zCpB (zH r) f g i) (f + i)), zR r, zO r, zD r, zL r)) := mW_D hDk
    refine lv_aload_n hx hb d_M_copy_24 rfl (lv_at hl 1 rfl) ?_
    refine va_get (D := (dC, dI)) (ci := 2) (v := .ref (a 2)) (C := R_M) (T := F_M) (N := 11) hx hb hB in_M hown hK hP 0 rfl rfl 2 (by decide) (hB _ bw_357) (fun _ h9 => h9) rfl d_M_copy_25 ?_
    refine lv_iload_n hx hb d_M_copy_28 rfl (lv_at hl 3 rfl) ?_
    refine lv_iload_n hx hb d_M_copy_29 rfl (lv_at hl 0 rfl) ?_
    refine lv_iadd hx hb d_M_copy_30 ?_
    refine W.eq (g2 := F0 m 31 ls [.int (nI (g + i)), .ref (a 2)]) (by rw [nI_add]) ?_
    refine lv_aload_n hx hb d_M_copy_31 rfl (lv_at hl 1 rfl) ?_
    refine va_get (D := (dC, dI)) (ci := 2) (v := .ref (a 2)) (C := R_M) (T := F_M) (N := 11) hx hb hB in_M hown hK hP 0 rfl rfl 2 (by decide) (hB _ bw_357) (fun _ h9 => h9) rfl d_M_copy_32 ?_
    refine lv_iload_n hx hb d_M_copy_35 rfl (lv_at hl 2 rfl) ?_
    refine lv_iload_n hx hb d_M_copy_36 rfl (lv_at hl 0 rfl) ?_
    refine lv_iadd hx hb d_M_copy_37 ?_
    refine W.eq (g2 := F0 m 38 ls [.int (nI (f + i)), .ref (a 2), .int (nI (g + i)), .ref (a 2)]) (by rw [nI_add]) ?_
    refine va_lald hx hb hK hP 2 1 rfl rfl (pk_in (f + i) 1280 (by omega)) d_M_copy_38 ?_
    refine W.eq (g2 := F0 m 39 ls [.long ((zCpL (zW r) f g i) (f + i)), .int (nI (g + i)), .ref (a 2)]) (by rw [cl_nI (by omega)]) ?_
    refine va_last hx hb hK hP hD hS 2 1 rfl rfl (pk_in (g + i) 1280 (by omega)) d_M_copy_39 (fun H locs hP hD hS => ?_)
    rw [cl_nI (by omega)] at hP
    have hP : va_P (dC, dI) vwC (mW k a (zE r, zC r, vp_updL (zCpL (zW r) f g i) (g + i) ((zCpL (zW r) f g i) (f + i)), zG r, zP r, zS r, va_up (zCpB (zH r) f g i) (g + i) ((zCpB (zH r) f g i) (f + i)), zR r, zO r, zD r, zL r)) H := hP
    have hD : va_D A (mW k a (zE r, zC r, vp_updL (zCpL (zW r) f g i) (g + i) ((zCpL (zW r) f g i) (f + i)), zG r, zP r, zS r, va_up (zCpB (zH r) f g i) (g + i) ((zCpB (zH r) f g i) (f + i)), zR r, zO r, zD r, zL r)) := mW_D hDk
    refine lv_iinc (k := 0) (v := nI (i + 1)) hx hb d_M_copy_40 hl rfl (nI_1 i) (by decide) rfl (fun ls hl => ?_)
    have hl : lv_has ls 4 [(3, .int (nI (i + 1))), (0, .ref (a 0)), (1, .int (nI f)), (2, .int (nI g))] := hl
    refine lv_goto hx hb d_M_copy_43 rfl ?_
    exact ih (i + 1) H locs ls (by omega) (by omega) hl hP hS
