/-! The nested class: a contract a method. -/
set_option maxHeartbeats 4000000 in
set_option maxRecDepth 100000 in
theorem m_T_holds (l : Launch) (x : Int32) (j : Nat) (hj : j < 32) : Met l y_T_holds w_T_holds (rmx 0 0 0 0) (fun v _ => v = ([.int x, .int (nI j)] : List Value).toArray) (vp_Si (fun r => r = bI (bt x j))) 0 0 (fun _ => False) := by
  refine Met.ofW (cc := c_T_holds) (maxL := 2) (ret := (some .boolean)) (by decide) rfl ?_
  intro p e s m args below meth c s₁ B hml hv
  obtain rfl := hv
  have hx := B.exec
  have hb := B.bytes
  have hr := B.returns
  have hts := atoms_spec (ws := w_T_holds) B.pre
  have hB : ∀ w ∈ BIG, w.before _ s = true := fun w h => hts w (List.mem_cons_of_mem _ h)
  have hown : s.vm.findClass R_T = some m.cls := findClass_of_methodNamed B.named
  have hlocks := B.notSynchronized
  have hl := lv_entry ([.int x, .int (nI j)]) (n := 2) (Nat.le_of_ble_eq_true rfl)
  rw [lg_entry_eq]
  generalize (lg_sl ([.int x, .int (nI j)]) ++ List.replicate (2 - (lg_sl ([.int x, .int (nI j)])).length) Slot.unset).toArray = ls at hl ⊢
  have hl : lv_has ls 2 [(0, .int x), (1, .int (nI j))] := hl
  refine lv_iload_n hx hb d_T_holds_0 rfl (lv_at hl 0 rfl) ?_
  refine lv_iload_n hx hb d_T_holds_1 rfl (lv_at hl 1 rfl) ?_
  refine lv_ishr hx hb d_T_holds_2 ?_
  refine lv_iconst (v := 1) hx hb d_T_holds_3 (by decide) ?_
  refine lv_iand hx hb d_T_holds_4 ?_
  refine W.eq (g2 := F0 m 5 ls [.int (bI (bt x j))]) (by rw [hold_bt x hj]) ?_
  refine lv_iconst (v := 1) hx hb d_T_holds_5 (by decide) ?_
  refine lv_icmp_ne hx hb d_T_holds_6 rfl (fun h9 => ?_) (fun h9 => ?_)
  · have h8 : bt x j = false := by cases hc : bt x j; rfl; exact absurd (bI_eq.mpr hc) h9
    refine lv_iconst (v := bI (bt x j)) hx hb d_T_holds_13 (by rw [h8]; decide) ?_
    exact W.zret (v := bI (bt x j)) hx hb hr (bI_nar _) (fun t ht hW => ⟨_, rfl, rfl, ht⟩) (fun q h => nomatch h) d_T_holds_14
  · have h8 : bt x j = true := bI_eq.mp h9
    refine lv_iconst (v := bI (bt x j)) hx hb d_T_holds_9 (by rw [h8]; decide) ?_
    refine lv_goto hx hb d_T_holds_10 rfl ?_
    exact W.zret (v := bI (bt x j)) hx hb hr (bI_nar _) (fun t ht hW => ⟨_, rfl, rfl, ht⟩) (fun q h => nomatch h) d_T_holds_14
set_option maxHeartbeats 4000000 in
set_option maxRecDepth 100000 in
theorem m_T_isOpen (l : Launch) (dC : Nat → ClassId) (dI : Nat → Nat → Nat) (k : Nat → ClassId) (a : Nat → Nat) (z : xTS) : Met l y_T_isOpen w_T_isOpen (rmx 0 0 0 0) (tRc dC dI k a z [.ref (a 0)]) (vp_Si (fun r => r = bI (xO z))) 0 0 (fun _ => False) := by
  refine Met.ofW (cc := c_T_isOpen) (maxL := 1) (ret := (some .boolean)) (by decide) rfl ?_
  intro p e s m args below meth c s₁ B hml hv
  obtain ⟨rfl, hP, hK⟩ := hv
  have hx := B.exec
  have hb := B.bytes
  have hr := B.returns
  have hts := atoms_spec (ws := w_T_isOpen) B.pre
  have hB : ∀ w ∈ BIG, w.before _ s = true := fun w h => hts w (List.mem_cons_of_mem _ h)
  have hown : s.vm.findClass R_T = some m.cls := findClass_of_methodNamed B.named
  have hlocks := B.notSynchronized
  have hl := lv_entry ([.ref (a 0)]) (n := 1) (Nat.le_of_ble_eq_true rfl)
  rw [lg_entry_eq]
  generalize (lg_sl ([.ref (a 0)]) ++ List.replicate (1 - (lg_sl ([.ref (a 0)])).length) Slot.unset).toArray = ls at hl ⊢
  have hl : lv_has ls 1 [(0, .ref (a 0))] := hl
  refine lv_aload_n hx hb d_T_isOpen_0 rfl (lv_at hl 0 rfl) ?_
  refine va_get (D := (dC, dI)) (ci := 0) (v := .int (bI (xO z))) (C := R_T) (T := F_T) (N := 6) hx hb hB in_T hown hK hP 0 rfl rfl 0 (by decide) (hB _ bw_41) (fun _ h9 => h9) rfl d_T_isOpen_1 ?_
  exact W.zret (v := bI (xO z)) hx hb hr (bI_nar _) (fun t ht hW => ⟨_, rfl, rfl, ht⟩) (fun q h => nomatch h) d_T_isOpen_4
set_option maxHeartbeats 4000000 in
set_option maxRecDepth 100000 in
theorem m_T_isStale (l : Launch) (dC : Nat → ClassId) (dI : Nat → Nat → Nat) (k : Nat → ClassId) (a : Nat → Nat) (z : xTS) : Met l y_T_isStale w_T_isStale (rmx 0 0 0 0) (tRc dC dI k a z [.ref (a 0)]) (vp_Si (fun r => r = bI (xS z))) 0 0 (fun _ => False) := by
  refine Met.ofW (cc := c_T_isStale) (maxL := 1) (ret := (some .boolean)) (by decide) rfl ?_
  intro p e s m args below meth c s₁ B hml hv
  obtain ⟨rfl, hP, hK⟩ := hv
  have hx := B.exec
  have hb := B.bytes
  have hr := B.returns
  have hts := atoms_spec (ws := w_T_isStale) B.pre
  have hB : ∀ w ∈ BIG, w.before _ s = true := fun w h => hts w (List.mem_cons_of_mem _ h)
  have hown : s.vm.findClass R_T = some m.cls := findClass_of_methodNamed B.named
  have hlocks := B.notSynchronized
  have hl := lv_entry ([.ref (a 0)]) (n := 1) (Nat.le_of_ble_eq_true rfl)
  rw [lg_entry_eq]
  generalize (lg_sl ([.ref (a 0)]) ++ List.replicate (1 - (lg_sl ([.ref (a 0)])).length) Slot.unset).toArray = ls at hl ⊢
  have hl : lv_has ls 1 [(0, .ref (a 0))] := hl
  refine lv_aload_n hx hb d_T_isStale_0 rfl (lv_at hl 0 rfl) ?_
  refine va_get (D := (dC, dI)) (ci := 0) (v := .int (bI (xS z))) (C := R_T) (T := F_T) (N := 6) hx hb hB in_T hown hK hP 0 rfl rfl 1 (by decide) (hB _ bw_42) (fun _ h9 => h9) rfl d_T_isStale_1 ?_
  exact W.zret (v := bI (xS z)) hx hb hr (bI_nar _) (fun t ht hW => ⟨_, rfl, rfl, ht⟩) (fun q h => nomatch h) d_T_isStale_4
set_option maxHeartbeats 4000000 in
set_option maxRecDepth 100000 in
theorem m_T_partCount (l : Launch) (dC : Nat → ClassId) (dI : Nat → Nat → Nat) (k : Nat → ClassId) (a : Nat → Nat) (z : xTS) : Met l y_T_partCount w_T_partCount (rmx 0 0 0 0) (tRc dC dI k a z [.ref (a 0)]) (vp_Si (fun r => r = nI (xP z))) 0 0 (fun _ => False) := by
  refine Met.ofW (cc := c_T_partCount) (maxL := 1) (ret := (some .int)) (by decide) rfl ?_
  intro p e s m args below meth c s₁ B hml hv
  obtain ⟨rfl, hP, hK⟩ := hv
  have hx := B.exec
  have hb := B.bytes
  have hr := B.returns
  have hts := atoms_spec (ws := w_T_partCount) B.pre
  have hB : ∀ w ∈ BIG, w.before _ s = true := fun w h => hts w (List.mem_cons_of_mem _ h)
  have hown : s.vm.findClass R_T = some m.cls := findClass_of_methodNamed B.named
  have hlocks := B.notSynchronized
  have hl := lv_entry ([.ref (a 0)]) (n := 1) (Nat.le_of_ble_eq_true rfl)
  rw [lg_entry_eq]
  generalize (lg_sl ([.ref (a 0)]) ++ List.replicate (1 - (lg_sl ([.ref (a 0)])).length) Slot.unset).toArray = ls at hl ⊢
  have hl : lv_has ls 1 [(0, .ref (a 0))] := hl
  refine lv_aload_n hx hb d_T_partCount_0 rfl (lv_at hl 0 rfl) ?_
  refine va_get (D := (dC, dI)) (ci := 0) (v := .int (nI (xP z))) (C := R_T) (T := F_T) (N := 6) hx hb hB in_T hown hK hP 0 rfl rfl 3 (by decide) (hB _ bw_44) (fun _ h9 => h9) rfl d_T_partCount_1 ?_
  exact W.iret (v := nI (xP z)) hx hb hr (fun t ht hW => ⟨_, rfl, rfl, ht⟩) (fun q h => nomatch h) d_T_partCount_4
set_option maxHeartbeats 4000000 in
set_option maxRecDepth 100000 in
theorem m_T_close (l : Launch) (dC : Nat → ClassId) (dI : Nat → Nat → Nat) (k : Nat → ClassId) (a : Nat → Nat) (sz : Nat) (z : xTS) : Met l y_T_close w_T_close (rmx 0 0 0 0) (tPc dC dI k a sz z [.ref (a 0)]) (va_Qv (fun u : xTS => u = tClose z) (tB dC dI k a) (va_A (tW k a z) sz)) 0 0 (va_A (tW k a z) sz) := by
  refine Met.ofW (cc := c_T_close) (maxL := 1) (ret := none) (by decide) rfl ?_
  intro p e s m args below meth c s₁ B hml hv
  obtain ⟨rfl, hsz, hP, hK, hD0⟩ := hv
  have hx := B.exec
  have hb := B.bytes
  have hr := B.returns
  have hts := atoms_spec (ws := w_T_close) B.pre
  have hB : ∀ w ∈ BIG, w.before _ s = true := fun w h => hts w (List.mem_cons_of_mem _ h)
  have hown : s.vm.findClass R_T = some m.cls := findClass_of_methodNamed B.named
  have hlocks := B.notSynchronized
  have hl := lv_entry ([.ref (a 0)]) (n := 1) (Nat.le_of_ble_eq_true rfl)
  rw [lg_entry_eq]
  generalize (lg_sl ([.ref (a 0)]) ++ List.replicate (1 - (lg_sl ([.ref (a 0)])).length) Slot.unset).toArray = ls at hl ⊢
  have hl : lv_has ls 1 [(0, .ref (a 0))] := hl
  subst hsz
  have hD := hD0.self (sz := s.heap.size)
  generalize hAe : va_A (tW k a z) s.heap.size = A at hD ⊢
  have hA : ∀ q : Nat, s.heap.size ≤ q → A q := fun q h => by rw [← hAe]; exact Or.inr h
  have hS : va_S A s.heap s.heap [] := va_S.rf
  refine lv_aload_n hx hb d_T_close_0 rfl (lv_at hl 0 rfl) ?_
  refine lv_iconst (v := bI false) hx hb d_T_close_1 (by decide) ?_
  refine va_put (D := (dC, dI)) (ci := 0) (v := .int (bI false)) (ty := .boolean) (C := R_T) (T := F_T) (N := 6) hx hb hB in_T tf_T ty_T nm_T hown hK hP hD hS 0 rfl rfl 0 (by decide) (hB _ bw_41) (fun _ h9 => h9) rfl (by decide +kernel) (bI_nar _) (bI_fit _) (Nat.le_of_ble_eq_true rfl) d_T_close_2 (fun H locs hP hD hS => ?_)
  have hP : va_P (dC, dI) vwC (tW k a (false, z.2)) H := hP
  have hD : va_D A (tW k a (false, z.2)) := hD
  exact W.vret hx hb hr (fun t ht hW => ⟨⟨_, rfl, rfl, by show va_P (dC, dI) vwC _ t.heap; rw [ht]; exact hP⟩, hS.F ht⟩) hS.2.2 d_T_close_5
set_option maxHeartbeats 4000000 in
set_option maxRecDepth 100000 in
theorem m_T_start (l : Launch) (dC : Nat → ClassId) (dI : Nat → Nat → Nat) (k : Nat → ClassId) (a : Nat → Nat) (sz : Nat) (z : xTS) : Met l y_T_start w_T_start (rmx 0 0 0 0) (tPc dC dI k a sz z [.ref (a 0)]) (va_Qv (fun u : xTS => u = tStart z) (tB dC dI k a) (va_A (tW k a z) sz)) 0 0 (va_A (tW k a z) sz) := by
  refine Met.ofW (cc := c_T_start) (maxL := 1) (ret := none) (by decide) rfl ?_
  intro p e s m args below meth c s₁ B hml hv
  obtain ⟨rfl, hsz, hP, hK, hD0⟩ := hv
  have hx := B.exec
  have hb := B.bytes
  have hr := B.returns
  have hts := atoms_spec (ws := w_T_start) B.pre
  have hB : ∀ w ∈ BIG, w.before _ s = true := fun w h => hts w (List.mem_cons_of_mem _ h)
  have hown : s.vm.findClass R_T = some m.cls := findClass_of_methodNamed B.named
  have hlocks := B.notSynchronized
  have hl := lv_entry ([.ref (a 0)]) (n := 1) (Nat.le_of_ble_eq_true rfl)
  rw [lg_entry_eq]
  generalize (lg_sl ([.ref (a 0)]) ++ List.replicate (1 - (lg_sl ([.ref (a 0)])).length) Slot.unset).toArray = ls at hl ⊢
  have hl : lv_has ls 1 [(0, .ref (a 0))] := hl
  subst hsz
  have hD := hD0.self (sz := s.heap.size)
  generalize hAe : va_A (tW k a z) s.heap.size = A at hD ⊢
  have hA : ∀ q : Nat, s.heap.size ≤ q → A q := fun q h => by rw [← hAe]; exact Or.inr h
  have hS : va_S A s.heap s.heap [] := va_S.rf
  refine lv_aload_n hx hb d_T_start_0 rfl (lv_at hl 0 rfl) ?_
  refine lv_iconst (v := bI true) hx hb d_T_start_1 (by decide) ?_
  refine va_put (D := (dC, dI)) (ci := 0) (v := .int (bI true)) (ty := .boolean) (C := R_T) (T := F_T) (N := 6) hx hb hB in_T tf_T ty_T nm_T hown hK hP hD hS 0 rfl rfl 0 (by decide) (hB _ bw_41) (fun _ h9 => h9) rfl (by decide +kernel) (bI_nar _) (bI_fit _) (Nat.le_of_ble_eq_true rfl) d_T_start_2 (fun H locs hP hD hS => ?_)
  have hP : va_P (dC, dI) vwC (tW k a (true, z.2)) H := hP
  have hD : va_D A (tW k a (true, z.2)) := hD
  refine lv_aload_n hx hb d_T_start_5 rfl (lv_at hl 0 rfl) ?_
  refine lv_iconst (v := bI false) hx hb d_T_start_6 (by decide) ?_
  refine va_put (D := (dC, dI)) (ci := 0) (v := .int (bI false)) (ty := .boolean) (C := R_T) (T := F_T) (N := 6) hx hb hB in_T tf_T ty_T nm_T hown hK hP hD hS 0 rfl rfl 1 (by decide) (hB _ bw_42) (fun _ h9 => h9) rfl (by decide +kernel) (bI_nar _) (bI_fit _) (Nat.le_of_ble_eq_true rfl) d_T_start_7 (fun H locs hP hD hS => ?_)
  have hP : va_P (dC, dI) vwC (tW k a (true, false, z.2.2)) H := hP
  have hD : va_D A (tW k a (true, false, z.2.2)) := hD
  refine lv_aload_n hx hb d_T_start_10 rfl (lv_at hl 0 rfl) ?_
  refine lv_iconst (v := 0) hx hb d_T_start_11 (by decide) ?_
  refine va_put (D := (dC, dI)) (ci := 0) (v := .int 0) (ty := .int) (C := R_T) (T := F_T) (N := 6) hx hb hB in_T tf_T ty_T nm_T hown hK hP hD hS 0 rfl rfl 2 (by decide) (hB _ bw_43) (fun _ h9 => h9) rfl (by decide +kernel) (rfl) (rfl) (Nat.le_of_ble_eq_true rfl) d_T_start_12 (fun H locs hP hD hS => ?_)
  have hP : va_P (dC, dI) vwC (tW k a (true, false, 0, z.2.2.2)) H := hP
  have hD : va_D A (tW k a (true, false, 0, z.2.2.2)) := hD
  refine lv_aload_n hx hb d_T_start_15 rfl (lv_at hl 0 rfl) ?_
  refine lv_iconst (v := nI 1) hx hb d_T_start_16 (by decide) ?_
  refine va_put (D := (dC, dI)) (ci := 0) (v := .int (nI 1)) (ty := .int) (C := R_T) (T := F_T) (N := 6) hx hb hB in_T tf_T ty_T nm_T hown hK hP hD hS 0 rfl rfl 3 (by decide) (hB _ bw_44) (fun _ h9 => h9) rfl (by decide +kernel) (rfl) (rfl) (Nat.le_of_ble_eq_true rfl) d_T_start_17 (fun H locs hP hD hS => ?_)
  have hP : va_P (dC, dI) vwC (tW k a (true, false, 0, 1, z.2.2.2.2)) H := hP
  have hD : va_D A (tW k a (true, false, 0, 1, z.2.2.2.2)) := hD
  refine lv_aload_n hx hb d_T_start_20 rfl (lv_at hl 0 rfl) ?_
  refine va_get (D := (dC, dI)) (ci := 0) (v := .ref (a 1)) (C := R_T) (T := F_T) (N := 6) hx hb hB in_T hown hK hP 0 rfl rfl 4 (by decide) (hB _ bw_45) (fun _ h9 => h9) rfl d_T_start_21 ?_
  refine lv_iconst (v := nI 0) hx hb d_T_start_24 (by decide) ?_
  refine lv_iconst (v := 0) hx hb d_T_start_25 (by decide) ?_
  refine va_iast hx hb hK hP hD hS 1 0 rfl rfl (pk_in 0 5 (by omega)) d_T_start_26 (fun H locs hP hD hS => ?_)
  have hP : va_P (dC, dI) vwC (tW k a (tStart z)) H := hP
  exact W.vret hx hb hr (fun t ht hW => ⟨⟨_, rfl, rfl, by show va_P (dC, dI) vwC _ t.heap; rw [ht]; exact hP⟩, hS.F ht⟩) hS.2.2 d_T_start_27
set_option maxHeartbeats 4000000 in
set_option maxRecDepth 100000 in
theorem m_T_markRead (l : Launch) (dC : Nat → ClassId) (dI : Nat → Nat → Nat) (k : Nat → ClassId) (a : Nat → Nat) (sz : Nat) (z : xTS) (j : Nat) : Met l y_T_markRead w_T_markRead (rmx 0 0 0 0) (tPc dC dI k a sz z [.ref (a 0), .int (nI j)]) (va_Qv (fun u : xTS => u = tMark z j) (tB dC dI k a) (va_A (tW k a z) sz)) 0 0 (va_A (tW k a z) sz) := by
  refine Met.ofW (cc := c_T_markRead) (maxL := 2) (ret := none) (by decide) rfl ?_
  intro p e s m args below meth c s₁ B hml hv
  obtain ⟨rfl, hsz, hP, hK, hD0⟩ := hv
  have hx := B.exec
  have hb := B.bytes
  have hr := B.returns
  have hts := atoms_spec (ws := w_T_markRead) B.pre
  have hB : ∀ w ∈ BIG, w.before _ s = true := fun w h => hts w (List.mem_cons_of_mem _ h)
  have hown : s.vm.findClass R_T = some m.cls := findClass_of_methodNamed B.named
  have hlocks := B.notSynchronized
  have hl := lv_entry ([.ref (a 0), .int (nI j)]) (n := 2) (Nat.le_of_ble_eq_true rfl)
  rw [lg_entry_eq]
  generalize (lg_sl ([.ref (a 0), .int (nI j)]) ++ List.replicate (2 - (lg_sl ([.ref (a 0), .int (nI j)])).length) Slot.unset).toArray = ls at hl ⊢
  have hl : lv_has ls 2 [(0, .ref (a 0)), (1, .int (nI j))] := hl
  subst hsz
  have hD := hD0.self (sz := s.heap.size)
  generalize hAe : va_A (tW k a z) s.heap.size = A at hD ⊢
  have hA : ∀ q : Nat, s.heap.size ≤ q → A q := fun q h => by rw [← hAe]; exact Or.inr h
  have hS : va_S A s.heap s.heap [] := va_S.rf
  refine lv_aload_n hx hb d_T_markRead_0 rfl (lv_at hl 0 rfl) ?_
  refine lv_dup hx hb d_T_markRead_1 rfl ?_
  refine va_get (D := (dC, dI)) (ci := 0) (v := .int (xR z)) (C := R_T) (T := F_T) (N := 6) hx hb hB in_T hown hK hP 0 rfl rfl 2 (by decide) (hB _ bw_43) (fun _ h9 => h9) rfl d_T_markRead_2 ?_
  refine lv_iconst (v := 1) hx hb d_T_markRead_5 (by decide) ?_
  refine lv_iload_n hx hb d_T_markRead_6 rfl (lv_at hl 1 rfl) ?_
  refine lv_ishl hx hb d_T_markRead_7 ?_
  refine lv_ior hx hb d_T_markRead_8 ?_
  refine va_put (D := (dC, dI)) (ci := 0) (v := .int ((xR z) ||| (1 <<< (nI j &&& 31)))) (ty := .int) (C := R_T) (T := F_T) (N := 6) hx hb hB in_T tf_T ty_T nm_T hown hK hP hD hS 0 rfl rfl 2 (by decide) (hB _ bw_43) (fun _ h9 => h9) rfl (by decide +kernel) (rfl) (rfl) (Nat.le_of_ble_eq_true rfl) d_T_markRead_9 (fun H locs hP hD hS => ?_)
  have hP : va_P (dC, dI) vwC (tW k a (tMark z j)) H := hP
  have hD : va_D A (tW k a (tMark z j)) := hD
  exact W.vret hx hb hr (fun t ht hW => ⟨⟨_, rfl, rfl, by show va_P (dC, dI) vwC _ t.heap; rw [ht]; exact hP⟩, hS.F ht⟩) hS.2.2 d_T_markRead_12
set_option maxHeartbeats 4000000 in
set_option maxRecDepth 100000 in
theorem m_T_noteChange (l : Launch) (dC : Nat → ClassId) (dI : Nat → Nat → Nat) (k : Nat → ClassId) (a : Nat → Nat) (sz : Nat) (z : xTS) (j : Nat) (hj : j < 32) : Met l y_T_noteChange w_T_noteChange (rmx 1 0 0 32) (tPc dC dI k a sz z [.ref (a 0), .int (nI j)]) (va_Qv (fun u : xTS => u = tNote z j) (tB dC dI k a) (va_A (tW k a z) sz)) 0 0 (va_A (tW k a z) sz) := by
  refine Met.ofW (cc := c_T_noteChange) (maxL := 2) (ret := none) (by decide) rfl ?_
  intro p e s m args below meth c s₁ B hml hv
  obtain ⟨rfl, hsz, hP, hK, hD0⟩ := hv
  have hx := B.exec
  have hb := B.bytes
  have hr := B.returns
  have hts := atoms_spec (ws := w_T_noteChange) B.pre
  have hB : ∀ w ∈ BIG, w.before _ s = true := fun w h => hts w (List.mem_cons_of_mem _ h)
  have hown : s.vm.findClass R_T = some m.cls := findClass_of_methodNamed B.named
  have hlocks := B.notSynchronized
  have hl := lv_entry ([.ref (a 0), .int (nI j)]) (n := 2) (Nat.le_of_ble_eq_true rfl)
  rw [lg_entry_eq]
  generalize (lg_sl ([.ref (a 0), .int (nI j)]) ++ List.replicate (2 - (lg_sl ([.ref (a 0), .int (nI j)])).length) Slot.unset).toArray = ls at hl ⊢
  have hl : lv_has ls 2 [(0, .ref (a 0)), (1, .int (nI j))] := hl
  subst hsz
  have hD := hD0.self (sz := s.heap.size)
  generalize hAe : va_A (tW k a z) s.heap.size = A at hD ⊢
  have hA : ∀ q : Nat, s.heap.size ≤ q → A q := fun q h => by rw [← hAe]; exact Or.inr h
  have hS : va_S A s.heap s.heap [] := va_S.rf
  refine lv_aload_n hx hb d_T_noteChange_0 rfl (lv_at hl 0 rfl) ?_
  refine va_get (D := (dC, dI)) (ci := 0) (v := .int (bI (xO z))) (C := R_T) (T := F_T) (N := 6) hx hb hB in_T hown hK hP 0 rfl rfl 0 (by decide) (hB _ bw_41) (fun _ h9 => h9) rfl d_T_noteChange_1 ?_
  refine lv_if_eq hx hb d_T_noteChange_4 rfl (fun h9 => ?_) (fun h9 => ?_)
  · have h8 : xO z = false := bI_ne.mp h9
    exact W.vret hx hb hr (fun t ht hW => ⟨⟨z, rfl, (tNote_cl h8).symm, by show va_P (dC, dI) vwC _ t.heap; rw [ht]; exact hP⟩, hS.F ht⟩) hS.2.2 d_T_noteChange_23
  · have h8 : xO z = true := by cases hc : xO z; exact absurd (bI_ne.mpr hc) h9; rfl
    refine lv_aload_n hx hb d_T_noteChange_7 rfl (lv_at hl 0 rfl) ?_
    refine va_get (D := (dC, dI)) (ci := 0) (v := .int (xR z)) (C := R_T) (T := F_T) (N := 6) hx hb hB in_T hown hK hP 0 rfl rfl 2 (by decide) (hB _ bw_43) (fun _ h9 => h9) rfl d_T_noteChange_8 ?_
    refine lv_iload_n hx hb d_T_noteChange_11 rfl (lv_at hl 1 rfl) ?_
    refine vp_callSi (va_Run.run (va_runS (As := [.int (xR z), .int (nI j)]) (rest := []) ⟨hx, hb, hml, hown, hB⟩ (m_T_holds l (xR z) j hj) (va_cwS 2 hB (BIG_SS bw_185 bw_186 bw_17 bw_187) rfl rfl rfl ⟨by decide, by decide, by decide +kernel⟩ ⟨Nat.le_of_ble_eq_true rfl, Nat.le_of_ble_eq_true rfl⟩) preEq rfl rfl hl.1 rfl (lv_room (Nat.le_of_ble_eq_true rfl)) d_T_noteChange_12 ⟨Nat.zero_le _, Nat.zero_le _⟩)) (fun r7 hr7 => ?_)
    subst hr7
    refine lv_if_eq hx hb d_T_noteChange_15 rfl (fun h7 => ?_) (fun h7 => ?_)
    · have h6 : bt (xR z) j = false := bI_ne.mp h7
      exact W.vret hx hb hr (fun t ht hW => ⟨⟨z, rfl, by unfold tNote; rw [h6, Bool.and_false, if_neg (by decide)], by show va_P (dC, dI) vwC _ t.heap; rw [ht]; exact hP⟩, hS.F ht⟩) hS.2.2 d_T_noteChange_23
    · have h6 : bt (xR z) j = true := by cases hc : bt (xR z) j; exact absurd (bI_ne.mpr hc) h7; rfl
      refine lv_aload_n hx hb d_T_noteChange_18 rfl (lv_at hl 0 rfl) ?_
      refine lv_iconst (v := bI true) hx hb d_T_noteChange_19 (by decide) ?_
      refine va_put (D := (dC, dI)) (ci := 0) (v := .int (bI true)) (ty := .boolean) (C := R_T) (T := F_T) (N := 6) hx hb hB in_T tf_T ty_T nm_T hown hK hP hD hS 0 rfl rfl 1 (by decide) (hB _ bw_42) (fun _ h9 => h9) rfl (by decide +kernel) (bI_nar _) (bI_fit _) (Nat.le_of_ble_eq_true rfl) d_T_noteChange_20 (fun H locs hP hD hS => ?_)
      have hP : va_P (dC, dI) vwC (tW k a (xO z, true, z.2.2)) H := hP
      have hD : va_D A (tW k a (xO z, true, z.2.2)) := hD
      exact W.vret hx hb hr (fun t ht hW => ⟨⟨(xO z, true, z.2.2), rfl, by unfold tNote; rw [h6, h8]; rfl, by show va_P (dC, dI) vwC _ t.heap; rw [ht]; exact hP⟩, hS.F ht⟩) hS.2.2 d_T_noteChange_23
