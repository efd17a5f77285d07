/-! Integer.bitCount; the rest of the nested class. -/
set_option maxHeartbeats 4000000 in
set_option maxRecDepth 100000 in
theorem m_J_bitCount (l : Launch) (x : Int32) : Met l y_J_bitCount w_J_bitCount (rmx 0 0 0 0) (fun v _ => v = ([.int x] : List Value).toArray) (vp_Si (fun r => r = nI (bCnt x 32))) 0 0 (fun _ => False) := by
  refine Met.ofW (cc := c_J_bitCount) (maxL := 1) (ret := (some .int)) (by decide) rfl ?_
  intro p e s m args below meth c s₁ B hml hv
  obtain rfl := hv
  have hx := B.exec
  have hb := B.bytes
  have hr := B.returns
  have hts := atoms_spec (ws := w_J_bitCount) B.pre
  have hB : ∀ w ∈ BIG, w.before _ s = true := fun w h => hts w (List.mem_cons_of_mem _ h)
  have hown : s.vm.findClass R_J = some m.cls := findClass_of_methodNamed B.named
  have hlocks := B.notSynchronized
  have hl := lv_entry ([.int x]) (n := 1) (Nat.le_of_ble_eq_true rfl)
  rw [lg_entry_eq]
  generalize (lg_sl ([.int x]) ++ List.replicate (1 - (lg_sl ([.int x])).length) Slot.unset).toArray = ls at hl ⊢
  have hl : lv_has ls 1 [(0, .int x)] := hl
  refine lv_iload_n hx hb d_J_bitCount_0 rfl (lv_at hl 0 rfl) ?_
  refine lv_iload_n hx hb d_J_bitCount_1 rfl (lv_at hl 0 rfl) ?_
  refine lv_iconst (v := nI 1) hx hb d_J_bitCount_2 (by decide) ?_
  refine lv_iushr (v := us x 1) hx hb d_J_bitCount_3 rfl ?_
  refine lv_ldcw hx hb hown (hB _ bw_332) d_J_bitCount_4 ?_
  refine lv_iand hx hb d_J_bitCount_7 ?_
  refine lv_isub hx hb d_J_bitCount_8 ?_
  refine lv_topi (fun i1 e1 => ?_)
  refine lv_istore_n hx hb d_J_bitCount_9 rfl hl (by decide) rfl (fun ls hl => ?_)
  have hl : lv_has ls 1 [(0, .int i1)] := hl
  refine lv_iload_n hx hb d_J_bitCount_10 rfl (lv_at hl 0 rfl) ?_
  refine lv_ldcw hx hb hown (hB _ bw_333) d_J_bitCount_11 ?_
  refine lv_iand hx hb d_J_bitCount_14 ?_
  refine lv_iload_n hx hb d_J_bitCount_15 rfl (lv_at hl 0 rfl) ?_
  refine lv_iconst (v := nI 2) hx hb d_J_bitCount_16 (by decide) ?_
  refine lv_iushr (v := us i1 2) hx hb d_J_bitCount_17 rfl ?_
  refine lv_ldcw hx hb hown (hB _ bw_333) d_J_bitCount_18 ?_
  refine lv_iand hx hb d_J_bitCount_21 ?_
  refine lv_iadd hx hb d_J_bitCount_22 ?_
  refine lv_topi (fun i2 e2 => ?_)
  refine lv_istore_n hx hb d_J_bitCount_23 rfl hl (by decide) rfl (fun ls hl => ?_)
  have hl : lv_has ls 1 [(0, .int i2)] := hl
  refine lv_iload_n hx hb d_J_bitCount_24 rfl (lv_at hl 0 rfl) ?_
  refine lv_iload_n hx hb d_J_bitCount_25 rfl (lv_at hl 0 rfl) ?_
  refine lv_iconst (v := nI 4) hx hb d_J_bitCount_26 (by decide) ?_
  refine lv_iushr (v := us i2 4) hx hb d_J_bitCount_27 rfl ?_
  refine lv_iadd hx hb d_J_bitCount_28 ?_
  refine lv_ldcw hx hb hown (hB _ bw_334) d_J_bitCount_29 ?_
  refine lv_iand hx hb d_J_bitCount_32 ?_
  refine lv_topi (fun i3 e3 => ?_)
  refine lv_istore_n hx hb d_J_bitCount_33 rfl hl (by decide) rfl (fun ls hl => ?_)
  have hl : lv_has ls 1 [(0, .int i3)] := hl
  refine lv_iload_n hx hb d_J_bitCount_34 rfl (lv_at hl 0 rfl) ?_
  refine lv_iload_n hx hb d_J_bitCount_35 rfl (lv_at hl 0 rfl) ?_
  refine lv_bipush (v := nI 8) hx hb d_J_bitCount_36 (by decide) ?_
  refine lv_iushr (v := us i3 8) hx hb d_J_bitCount_38 rfl ?_
  refine lv_iadd hx hb d_J_bitCount_39 ?_
  refine lv_topi (fun i4 e4 => ?_)
  refine lv_istore_n hx hb d_J_bitCount_40 rfl hl (by decide) rfl (fun ls hl => ?_)
  have hl : lv_has ls 1 [(0, .int i4)] := hl
  refine lv_iload_n hx hb d_J_bitCount_41 rfl (lv_at hl 0 rfl) ?_
  refine lv_iload_n hx hb d_J_bitCount_42 rfl (lv_at hl 0 rfl) ?_
  refine lv_bipush (v := nI 16) hx hb d_J_bitCount_43 (by decide) ?_
  refine lv_iushr (v := us i4 16) hx hb d_J_bitCount_45 rfl ?_
  refine lv_iadd hx hb d_J_bitCount_46 ?_
  refine lv_topi (fun i5 e5 => ?_)
  refine lv_istore_n hx hb d_J_bitCount_47 rfl hl (by decide) rfl (fun ls hl => ?_)
  have hl : lv_has ls 1 [(0, .int i5)] := hl
  refine lv_iload_n hx hb d_J_bitCount_48 rfl (lv_at hl 0 rfl) ?_
  refine lv_bipush (v := nI 63) hx hb d_J_bitCount_49 (by decide) ?_
  refine lv_iand hx hb d_J_bitCount_51 ?_
  exact W.iret (v := i5 &&& (nI 63)) hx hb hr (fun t ht hW => ⟨_, rfl, bc_fin e1 e2 e3 e4 e5, ht⟩) (fun q h => nomatch h) d_J_bitCount_52
set_option maxHeartbeats 4000000 in
set_option maxRecDepth 100000 in
theorem m_T_readCount (l : Launch) (dC : Nat → ClassId) (dI : Nat → Nat → Nat) (k : Nat → ClassId) (a : Nat → Nat) (z : xTS) : Met l y_T_readCount w_T_readCount (rmx 1 0 0 32) (tRc dC dI k a z [.ref (a 0)]) (vp_Si (fun r => r = nI (bCnt (xR z) 32))) 0 0 (fun _ => False) := by
  refine Met.ofW (cc := c_T_readCount) (maxL := 1) (ret := (some .int)) (by decide) rfl ?_
  intro p e s m args below meth c s₁ B hml hv
  obtain ⟨rfl, hP, hK⟩ := hv
  have hx := B.exec
  have hb := B.bytes
  have hr := B.returns
  have hts := atoms_spec (ws := w_T_readCount) B.pre
  have hB : ∀ w ∈ BIG, w.before _ s = true := fun w h => hts w (List.mem_cons_of_mem _ h)
  have hown : s.vm.findClass R_T = some m.cls := findClass_of_methodNamed B.named
  have hlocks := B.notSynchronized
  have hl := lv_entry ([.ref (a 0)]) (n := 1) (Nat.le_of_ble_eq_true rfl)
  rw [lg_entry_eq]
  generalize (lg_sl ([.ref (a 0)]) ++ List.replicate (1 - (lg_sl ([.ref (a 0)])).length) Slot.unset).toArray = ls at hl ⊢
  have hl : lv_has ls 1 [(0, .ref (a 0))] := hl
  refine lv_aload_n hx hb d_T_readCount_0 rfl (lv_at hl 0 rfl) ?_
  refine va_get (D := (dC, dI)) (ci := 0) (v := .int (xR z)) (C := R_T) (T := F_T) (N := 6) hx hb hB in_T hown hK hP 0 rfl rfl 2 (by decide) (hB _ bw_43) (fun _ h9 => h9) rfl d_T_readCount_1 ?_
  refine vp_callSi (va_Run.run (va_runS (As := [.int (xR z)]) (rest := []) ⟨hx, hb, hml, hown, hB⟩ (m_J_bitCount l (xR z)) (va_cwS 1 hB (BIG_SS bw_329 bw_330 bw_26 bw_331) rfl rfl rfl ⟨by decide, by decide, by decide +kernel⟩ ⟨Nat.le_of_ble_eq_true rfl, Nat.le_of_ble_eq_true rfl⟩) preEq rfl rfl hl.1 rfl (lv_room (Nat.le_of_ble_eq_true rfl)) d_T_readCount_4 ⟨Nat.zero_le _, Nat.zero_le _⟩)) (fun r7 hr7 => ?_)
  exact W.iret (v := r7) hx hb hr (fun t ht hW => ⟨_, rfl, hr7, ht⟩) (fun q h => nomatch h) d_T_readCount_7
set_option maxHeartbeats 4000000 in
set_option maxRecDepth 100000 in
theorem m_T_writtenIn (l : Launch) (dC : Nat → ClassId) (dI : Nat → Nat → Nat) (k : Nat → ClassId) (a : Nat → Nat) (z : xTS) (j i : Nat) (hj : j < 5) (hi : i < 32) : Met l y_T_writtenIn w_T_writtenIn (rmx 0 0 0 0) (tRc dC dI k a z [.ref (a 0), .int (nI j), .int (nI i)]) (vp_Sl (fun r => r = xV z j i)) 0 0 (fun _ => False) := by
  refine Met.ofW (cc := c_T_writtenIn) (maxL := 3) (ret := (some .long)) (by decide) rfl ?_
  intro p e s m args below meth c s₁ B hml hv
  obtain ⟨rfl, hP, hK⟩ := hv
  have hx := B.exec
  have hb := B.bytes
  have hr := B.returns
  have hts := atoms_spec (ws := w_T_writtenIn) B.pre
  have hB : ∀ w ∈ BIG, w.before _ s = true := fun w h => hts w (List.mem_cons_of_mem _ h)
  have hown : s.vm.findClass R_T = some m.cls := findClass_of_methodNamed B.named
  have hlocks := B.notSynchronized
  have hl := lv_entry ([.ref (a 0), .int (nI j), .int (nI i)]) (n := 3) (Nat.le_of_ble_eq_true rfl)
  rw [lg_entry_eq]
  generalize (lg_sl ([.ref (a 0), .int (nI j), .int (nI i)]) ++ List.replicate (3 - (lg_sl ([.ref (a 0), .int (nI j), .int (nI i)])).length) Slot.unset).toArray = ls at hl ⊢
  have hl : lv_has ls 3 [(0, .ref (a 0)), (1, .int (nI j)), (2, .int (nI i))] := hl
  refine lv_aload_n hx hb d_T_writtenIn_0 rfl (lv_at hl 0 rfl) ?_
  refine va_get (D := (dC, dI)) (ci := 0) (v := .ref (a 2)) (C := R_T) (T := F_T) (N := 6) hx hb hB in_T hown hK hP 0 rfl rfl 5 (by decide) (hB _ bw_46) (fun _ h9 => h9) rfl d_T_writtenIn_1 ?_
  refine lv_iload_n hx hb d_T_writtenIn_4 rfl (lv_at hl 1 rfl) ?_
  refine xa_aald (r := a (3 + j)) hx hb hK hP 2 2 rfl rfl (pk_in j 5 hj) (by rw [cl_nI (by omega)]) d_T_writtenIn_5 ?_
  refine lv_iload_n hx hb d_T_writtenIn_6 rfl (lv_at hl 2 rfl) ?_
  refine va_lald hx hb hK hP (3 + j) 1 (tW_row hj) rfl (pk_in i 32 hi) d_T_writtenIn_7 ?_
  refine W.eq (g2 := F0 m 8 ls [.long (xV z j i)]) (by rw [cl_nI (by omega)]) ?_
  exact W.lret (v := xV z j i) hx hb hr (fun t ht hW => ⟨_, rfl, rfl, ht⟩) (fun q h => nomatch h) d_T_writtenIn_8
set_option maxHeartbeats 4000000 in
set_option maxRecDepth 100000 in
theorem m_T_writtenCount (l : Launch) (dC : Nat → ClassId) (dI : Nat → Nat → Nat) (k : Nat → ClassId) (a : Nat → Nat) (z : xTS) (hp : xP z ≤ 5) : Met l y_T_writtenCount w_T_writtenCount (rmx 1 0 0 32) (tRc dC dI k a z [.ref (a 0)]) (vp_Si (fun r => r = nI (bCnt (tAll (xW z) (xP z)) 32))) 0 0 (fun _ => False) := by
  refine Met.ofW (cc := c_T_writtenCount) (maxL := 3) (ret := (some .int)) (by decide) rfl ?_
  intro p e s m args below meth c s₁ B hml hv
  obtain ⟨rfl, hP, hK⟩ := hv
  have hx := B.exec
  have hb := B.bytes
  have hr := B.returns
  have hts := atoms_spec (ws := w_T_writtenCount) B.pre
  have hB : ∀ w ∈ BIG, w.before _ s = true := fun w h => hts w (List.mem_cons_of_mem _ h)
  have hown : s.vm.findClass R_T = some m.cls := findClass_of_methodNamed B.named
  have hlocks := B.notSynchronized
  have hl := lv_entry ([.ref (a 0)]) (n := 3) (Nat.le_of_ble_eq_true rfl)
  rw [lg_entry_eq]
  generalize (lg_sl ([.ref (a 0)]) ++ List.replicate (3 - (lg_sl ([.ref (a 0)])).length) Slot.unset).toArray = ls at hl ⊢
  have hl : lv_has ls 3 [(0, .ref (a 0))] := hl
  refine lv_iconst (v := nI 0) hx hb d_T_writtenCount_0 (by decide) ?_
  refine W.eq (g2 := F0 m 1 ls [.int (tAll (xW z) 0)]) rfl ?_
  refine lv_istore_n hx hb d_T_writtenCount_1 rfl hl (by decide) rfl (fun ls hl => ?_)
  have hl : lv_has ls 3 [(1, .int (tAll (xW z) 0)), (0, .ref (a 0))] := hl
  refine lv_iconst (v := nI 0) hx hb d_T_writtenCount_2 (by decide) ?_
  refine lv_istore_n hx hb d_T_writtenCount_3 rfl hl (by decide) rfl (fun ls hl => ?_)
  have hl : lv_has ls 3 [(2, .int (nI 0)), (1, .int (tAll (xW z) 0)), (0, .ref (a 0))] := hl
  suffices key : ∀ n i (ls : Array Slot), i ≤ xP z → xP z - i = n → lv_has ls 3 [(2, .int (nI i)), (1, .int (tAll (xW z) i)), (0, .ref (a 0))] → W p l e _ s m _ below meth c s.heap [] 0 0 (MQ below (vp_Si (fun r => r = nI (bCnt (tAll (xW z) (xP z)) 32))) _ s 0 0 (fun _ => False)) (F0 m 4 ls []) from key _ 0 ls (Nat.zero_le _) rfl hl
  intro n
  induction n with
  | zero =>
    intro i ls hi hn hl
    have hie : i = xP z := by omega
    subst hie
    refine lv_iload_n hx hb d_T_writtenCount_4 rfl (lv_at hl 0 rfl) ?_
    refine lv_aload_n hx hb d_T_writtenCount_5 rfl (lv_at hl 2 rfl) ?_
    refine va_get (D := (dC, dI)) (ci := 0) (v := .int (nI (xP z))) (C := R_T) (T := F_T) (N := 6) hx hb hB in_T hown hK hP 0 rfl rfl 3 (by decide) (hB _ bw_44) (fun _ h9 => h9) rfl d_T_writtenCount_6 ?_
    refine lv_icmp_ge hx hb d_T_writtenCount_9 rfl (fun _ => ?_) (fun h9 => absurd (nI_le (Nat.le_refl _) (by omega)) h9)
    refine lv_iload_n hx hb d_T_writtenCount_27 rfl (lv_at hl 1 rfl) ?_
    refine vp_callSi (va_Run.run (va_runS (As := [.int (tAll (xW z) (xP z))]) (rest := []) ⟨hx, hb, hml, hown, hB⟩ (m_J_bitCount l (tAll (xW z) (xP z))) (va_cwS 1 hB (BIG_SS bw_329 bw_330 bw_26 bw_331) rfl rfl rfl ⟨by decide, by decide, by decide +kernel⟩ ⟨Nat.le_of_ble_eq_true rfl, Nat.le_of_ble_eq_true rfl⟩) preEq rfl rfl hl.1 rfl (lv_room (Nat.le_of_ble_eq_true rfl)) d_T_writtenCount_28 ⟨Nat.zero_le _, Nat.zero_le _⟩)) (fun r7 hr7 => ?_)
    exact W.iret (v := r7) hx hb hr (fun t ht hW => ⟨_, rfl, hr7, ht⟩) (fun q h => nomatch h) d_T_writtenCount_31
  | succ n ih =>
    intro i ls hi hn hl
    have hlt : i < xP z := by omega
    refine lv_iload_n hx hb d_T_writtenCount_4 rfl (lv_at hl 0 rfl) ?_
    refine lv_aload_n hx hb d_T_writtenCount_5 rfl (lv_at hl 2 rfl) ?_
    refine va_get (D := (dC, dI)) (ci := 0) (v := .int (nI (xP z))) (C := R_T) (T := F_T) (N := 6) hx hb hB in_T hown hK hP 0 rfl rfl 3 (by decide) (hB _ bw_44) (fun _ h9 => h9) rfl d_T_writtenCount_6 ?_
    refine lv_icmp_ge hx hb d_T_writtenCount_9 rfl (fun h9 => absurd h9 (nI_ge hlt (by omega))) (fun _ => ?_)
    refine lv_iload_n hx hb d_T_writtenCount_12 rfl (lv_at hl 1 rfl) ?_
    refine lv_aload_n hx hb d_T_writtenCount_13 rfl (lv_at hl 2 rfl) ?_
    refine va_get (D := (dC, dI)) (ci := 0) (v := .ref (a 1)) (C := R_T) (T := F_T) (N := 6) hx hb hB in_T hown hK hP 0 rfl rfl 4 (by decide) (hB _ bw_45) (fun _ h9 => h9) rfl d_T_writtenCount_14 ?_
    refine lv_iload_n hx hb d_T_writtenCount_17 rfl (lv_at hl 0 rfl) ?_
    refine va_iald hx hb hK hP 1 0 rfl rfl (pk_in i 5 (by omega)) d_T_writtenCount_18 ?_
    refine W.eq (g2 := F0 m 19 ls [.int (xW z i), .int (tAll (xW z) i)]) (by rw [cl_nI (by omega)]) ?_
    refine lv_ior hx hb d_T_writtenCount_19 ?_
    refine W.eq (g2 := F0 m 20 ls [.int (tAll (xW z) (i + 1))]) rfl ?_
    refine lv_istore_n hx hb d_T_writtenCount_20 rfl hl (by decide) rfl (fun ls hl => ?_)
    have hl : lv_has ls 3 [(1, .int (tAll (xW z) (i + 1))), (2, .int (nI i)), (0, .ref (a 0))] := hl
    refine lv_iinc (k := 1) (v := nI (i + 1)) hx hb d_T_writtenCount_21 hl rfl (nI_1 i) (by decide) rfl (fun ls hl => ?_)
    have hl : lv_has ls 3 [(2, .int (nI (i + 1))), (1, .int (tAll (xW z) (i + 1))), (0, .ref (a 0))] := hl
    refine lv_goto hx hb d_T_writtenCount_24 rfl ?_
    exact ih (i + 1) ls (by omega) (by omega) hl
set_option maxHeartbeats 4000000 in
set_option maxRecDepth 100000 in
theorem m_T_lastPartWith (l : Launch) (dC : Nat → ClassId) (dI : Nat → Nat → Nat) (k : Nat → ClassId) (a : Nat → Nat) (z : xTS) (j : Nat) (hj : j < 32) (hp : xP z ≤ 5) : Met l y_T_lastPartWith w_T_lastPartWith (rmx 1 0 0 32) (tRc dC dI k a z [.ref (a 0), .int (nI j)]) (vp_Si (fun r => r = lastI (lastW (xW z) j (xP z)))) 0 0 (fun _ => False) := by
  refine Met.ofW (cc := c_T_lastPartWith) (maxL := 3) (ret := (some .int)) (by decide) rfl ?_
  intro p e s m args below meth c s₁ B hml hv
  obtain ⟨rfl, hP, hK⟩ := hv
  have hx := B.exec
  have hb := B.bytes
  have hr := B.returns
  have hts := atoms_spec (ws := w_T_lastPartWith) B.pre
  have hB : ∀ w ∈ BIG, w.before _ s = true := fun w h => hts w (List.mem_cons_of_mem _ h)
  have hown : s.vm.findClass R_T = some m.cls := findClass_of_methodNamed B.named
  have hlocks := B.notSynchronized
  have hl := lv_entry ([.ref (a 0), .int (nI j)]) (n := 3) (Nat.le_of_ble_eq_true rfl)
  rw [lg_entry_eq]
  generalize (lg_sl ([.ref (a 0), .int (nI j)]) ++ List.replicate (3 - (lg_sl ([.ref (a 0), .int (nI j)])).length) Slot.unset).toArray = ls at hl ⊢
  have hl : lv_has ls 3 [(0, .ref (a 0)), (1, .int (nI j))] := hl
  refine lv_aload_n hx hb d_T_lastPartWith_0 rfl (lv_at hl 0 rfl) ?_
  refine va_get (D := (dC, dI)) (ci := 0) (v := .int (nI (xP z))) (C := R_T) (T := F_T) (N := 6) hx hb hB in_T hown hK hP 0 rfl rfl 3 (by decide) (hB _ bw_44) (fun _ h9 => h9) rfl d_T_lastPartWith_1 ?_
  refine lv_iconst (v := nI 1) hx hb d_T_lastPartWith_4 (by decide) ?_
  refine lv_isub hx hb d_T_lastPartWith_5 ?_
  suffices key : ∀ n (ls : Array Slot), n ≤ xP z → lastW (xW z) j n = lastW (xW z) j (xP z) → lv_has ls 3 [(2, .int (nI n - 1)), (0, .ref (a 0)), (1, .int (nI j))] → W p l e _ s m _ below meth c s.heap [] 0 0 (MQ below (vp_Si (fun r => r = lastI (lastW (xW z) j (xP z)))) _ s 0 0 (fun _ => False)) (F0 m 7 ls []) from by
    refine W.eq (g2 := F0 m 6 ls [.int (nI (xP z) - 1)]) rfl ?_
    refine lv_istore_n hx hb d_T_lastPartWith_6 rfl hl (by decide) rfl (fun ls hl => ?_)
    have hl : lv_has ls 3 [(2, .int (nI (xP z) - 1)), (0, .ref (a 0)), (1, .int (nI j))] := hl
    exact key _ ls (Nat.le_refl _) rfl hl
  intro n
  induction n with
  | zero =>
    intro ls hn he hl
    refine lv_iload_n hx hb d_T_lastPartWith_7 rfl (lv_at hl 0 rfl) ?_
    refine lv_if_lt hx hb d_T_lastPartWith_8 rfl (fun _ => ?_) (fun h9 => absurd (by decide) h9)
    refine lv_iconst (v := -1) hx hb d_T_lastPartWith_32 (by decide) ?_
    exact W.iret (v := -1) hx hb hr (fun t ht hW => ⟨_, rfl, by rw [← he]; rfl, ht⟩) (fun q h => nomatch h) d_T_lastPartWith_33
  | succ n ih =>
    intro ls hn he hl
    rw [nI_pred] at hl
    refine lv_iload_n hx hb d_T_lastPartWith_7 rfl (lv_at hl 0 rfl) ?_
    refine lv_if_lt hx hb d_T_lastPartWith_8 rfl (fun h9 => absurd h9 (nI_pos (by omega))) (fun _ => ?_)
    refine lv_aload_n hx hb d_T_lastPartWith_11 rfl (lv_at hl 1 rfl) ?_
    refine va_get (D := (dC, dI)) (ci := 0) (v := .ref (a 1)) (C := R_T) (T := F_T) (N := 6) hx hb hB in_T hown hK hP 0 rfl rfl 4 (by decide) (hB _ bw_45) (fun _ h9 => h9) rfl d_T_lastPartWith_12 ?_
    refine lv_iload_n hx hb d_T_lastPartWith_15 rfl (lv_at hl 0 rfl) ?_
    refine va_iald hx hb hK hP 1 0 rfl rfl (pk_in n 5 (by omega)) d_T_lastPartWith_16 ?_
    refine W.eq (g2 := F0 m 17 ls [.int (xW z n)]) (by rw [cl_nI (by omega)]) ?_
    refine lv_iload_n hx hb d_T_lastPartWith_17 rfl (lv_at hl 2 rfl) ?_
    refine vp_callSi (va_Run.run (va_runS (As := [.int (xW z n), .int (nI j)]) (rest := []) ⟨hx, hb, hml, hown, hB⟩ (m_T_holds l (xW z n) j hj) (va_cwS 2 hB (BIG_SS bw_185 bw_186 bw_17 bw_187) rfl rfl rfl ⟨by decide, by decide, by decide +kernel⟩ ⟨Nat.le_of_ble_eq_true rfl, Nat.le_of_ble_eq_true rfl⟩) preEq rfl rfl hl.1 rfl (lv_room (Nat.le_of_ble_eq_true rfl)) d_T_lastPartWith_18 ⟨Nat.zero_le _, Nat.zero_le _⟩)) (fun r7 hr7 => ?_)
    subst hr7
    refine lv_if_eq hx hb d_T_lastPartWith_21 rfl (fun h9 => ?_) (fun h9 => ?_)
    · have h8 : bt (xW z n) j = false := bI_ne.mp h9
      refine lv_iinc (k := 0) (v := nI n - 1) hx hb d_T_lastPartWith_26 hl rfl (by rw [Int32.sub_eq_add_neg]; rfl) (by decide) rfl (fun ls hl => ?_)
      have hl : lv_has ls 3 [(2, .int (nI n - 1)), (0, .ref (a 0)), (1, .int (nI j))] := hl
      refine lv_goto hx hb d_T_lastPartWith_29 rfl ?_
      exact ih ls (by omega) (by rw [← he, lastW_s, h8, if_neg (by decide)]) hl
    · have h8 : bt (xW z n) j = true := by cases hc : bt (xW z n) j; exact absurd (bI_ne.mpr hc) h9; rfl
      refine lv_iload_n hx hb d_T_lastPartWith_24 rfl (lv_at hl 0 rfl) ?_
      exact W.iret (v := nI n) hx hb hr (fun t ht hW => ⟨_, rfl, by rw [← he, lastW_s, h8, if_pos rfl]; rfl, ht⟩) (fun q h => nomatch h) d_T_lastPartWith_25
set_option maxHeartbeats 4000000 in
set_option maxRecDepth 100000 in
theorem m_T_addPart (l : Launch) (dC : Nat → ClassId) (dI : Nat → Nat → Nat) (k : Nat → ClassId) (a : Nat → Nat) (sz : Nat) (z : xTS) (hp : xP z < 5) : Met l y_T_addPart w_T_addPart (rmx 0 0 0 0) (tPc dC dI k a sz z [.ref (a 0)]) (va_Qv (fun u : xTS => u = tAdd z) (tB dC dI k a) (va_A (tW k a z) sz)) 0 0 (va_A (tW k a z) sz) := by
  refine Met.ofW (cc := c_T_addPart) (maxL := 1) (ret := none) (by decide) rfl ?_
  intro p e s m args below meth c s₁ B hml hv
  obtain ⟨rfl, hsz, hP, hK, hD0⟩ := hv
  have hx := B.exec
  have hb := B.bytes
  have hr := B.returns
  have hts := atoms_spec (ws := w_T_addPart) B.pre
  have hB : ∀ w ∈ BIG, w.before _ s = true := fun w h => hts w (List.mem_cons_of_mem _ h)
  have hown : s.vm.findClass R_T = some m.cls := findClass_of_methodNamed B.named
  have hlocks := B.notSynchronized
  have hl := lv_entry ([.ref (a 0)]) (n := 1) (Nat.le_of_ble_eq_true rfl)
  rw [lg_entry_eq]
  generalize (lg_sl ([.ref (a 0)]) ++ List.replicate (1 - (lg_sl ([.ref (a 0)])).length) Slot.unset).toArray = ls at hl ⊢
  have hl : lv_has ls 1 [(0, .ref (a 0))] := hl
  subst hsz
  have hD := hD0.self (sz := s.heap.size)
  generalize hAe : va_A (tW k a z) s.heap.size = A at hD ⊢
  have hA : ∀ q : Nat, s.heap.size ≤ q → A q := fun q h => by rw [← hAe]; exact Or.inr h
  have hS : va_S A s.heap s.heap [] := va_S.rf
  refine lv_aload_n hx hb d_T_addPart_0 rfl (lv_at hl 0 rfl) ?_
  refine va_get (D := (dC, dI)) (ci := 0) (v := .ref (a 1)) (C := R_T) (T := F_T) (N := 6) hx hb hB in_T hown hK hP 0 rfl rfl 4 (by decide) (hB _ bw_45) (fun _ h9 => h9) rfl d_T_addPart_1 ?_
  refine lv_aload_n hx hb d_T_addPart_4 rfl (lv_at hl 0 rfl) ?_
  refine va_get (D := (dC, dI)) (ci := 0) (v := .int (nI (xP z))) (C := R_T) (T := F_T) (N := 6) hx hb hB in_T hown hK hP 0 rfl rfl 3 (by decide) (hB _ bw_44) (fun _ h9 => h9) rfl d_T_addPart_5 ?_
  refine lv_iconst (v := 0) hx hb d_T_addPart_8 (by decide) ?_
  refine va_iast hx hb hK hP hD hS 1 0 rfl rfl (pk_in (xP z) 5 hp) d_T_addPart_9 (fun H locs hP hD hS => ?_)
  rw [cl_nI (by omega)] at hP hD
  have hP : va_P (dC, dI) vwC (tW k a (xO z, xS z, xR z, xP z, upd (xW z) (xP z) 0, xV z)) H := hP
  have hD : va_D A (tW k a (xO z, xS z, xR z, xP z, upd (xW z) (xP z) 0, xV z)) := hD
  refine lv_aload_n hx hb d_T_addPart_10 rfl (lv_at hl 0 rfl) ?_
  refine lv_dup hx hb d_T_addPart_11 rfl ?_
  refine va_get (D := (dC, dI)) (ci := 0) (v := .int (nI (xP (xO z, xS z, xR z, xP z, upd (xW z) (xP z) 0, xV z)))) (C := R_T) (T := F_T) (N := 6) hx hb hB in_T hown hK hP 0 rfl rfl 3 (by decide) (hB _ bw_44) (fun _ h9 => h9) rfl d_T_addPart_12 ?_
  refine lv_iconst (v := nI 1) hx hb d_T_addPart_15 (by decide) ?_
  refine lv_iadd hx hb d_T_addPart_16 ?_
  refine W.eq (g2 := F0 m 17 ls [.int (nI (xP z + 1)), .ref (a 0)]) (by show F0 m 17 ls [.int (nI (xP z) + nI 1), .ref (a 0)] = _; rw [nI_add]) ?_
  refine va_put (D := (dC, dI)) (ci := 0) (v := .int (nI (xP z + 1))) (ty := .int) (C := R_T) (T := F_T) (N := 6) hx hb hB in_T tf_T ty_T nm_T hown hK hP hD hS 0 rfl rfl 3 (by decide) (hB _ bw_44) (fun _ h9 => h9) rfl (by decide +kernel) (rfl) (rfl) (Nat.le_of_ble_eq_true rfl) d_T_addPart_17 (fun H locs hP hD hS => ?_)
  have hP : va_P (dC, dI) vwC (tW k a (tAdd z)) H := hP
  have hD : va_D A (tW k a (tAdd z)) := hD
  exact W.vret hx hb hr (fun t ht hW => ⟨⟨_, rfl, rfl, by show va_P (dC, dI) vwC _ t.heap; rw [ht]; exact hP⟩, hS.F ht⟩) hS.2.2 d_T_addPart_20
set_option maxHeartbeats 4000000 in
set_option maxRecDepth 100000 in
theorem m_T_dropLastPart (l : Launch) (dC : Nat → ClassId) (dI : Nat → Nat → Nat) (k : Nat → ClassId) (a : Nat → Nat) (sz : Nat) (z : xTS) (hp : 1 ≤ xP z) : Met l y_T_dropLastPart w_T_dropLastPart (rmx 0 0 0 0) (tPc dC dI k a sz z [.ref (a 0)]) (va_Qv (fun u : xTS => u = tDrop z) (tB dC dI k a) (va_A (tW k a z) sz)) 0 0 (va_A (tW k a z) sz) := by
  refine Met.ofW (cc := c_T_dropLastPart) (maxL := 1) (ret := none) (by decide) rfl ?_
  intro p e s m args below meth c s₁ B hml hv
  obtain ⟨rfl, hsz, hP, hK, hD0⟩ := hv
  have hx := B.exec
  have hb := B.bytes
  have hr := B.returns
  have hts := atoms_spec (ws := w_T_dropLastPart) B.pre
  have hB : ∀ w ∈ BIG, w.before _ s = true := fun w h => hts w (List.mem_cons_of_mem _ h)
  have hown : s.vm.findClass R_T = some m.cls := findClass_of_methodNamed B.named
  have hlocks := B.notSynchronized
  have hl := lv_entry ([.ref (a 0)]) (n := 1) (Nat.le_of_ble_eq_true rfl)
  rw [lg_entry_eq]
  generalize (lg_sl ([.ref (a 0)]) ++ List.replicate (1 - (lg_sl ([.ref (a 0)])).length) Slot.unset).toArray = ls at hl ⊢
  have hl : lv_has ls 1 [(0, .ref (a 0))] := hl
  subst hsz
  have hD := hD0.self (sz := s.heap.size)
  generalize hAe : va_A (tW k a z) s.heap.size = A at hD ⊢
  have hA : ∀ q : Nat, s.heap.size ≤ q → A q := fun q h => by rw [← hAe]; exact Or.inr h
  have hS : va_S A s.heap s.heap [] := va_S.rf
  refine lv_aload_n hx hb d_T_dropLastPart_0 rfl (lv_at hl 0 rfl) ?_
  refine lv_dup hx hb d_T_dropLastPart_1 rfl ?_
  refine va_get (D := (dC, dI)) (ci := 0) (v := .int (nI (xP z))) (C := R_T) (T := F_T) (N := 6) hx hb hB in_T hown hK hP 0 rfl rfl 3 (by decide) (hB _ bw_44) (fun _ h9 => h9) rfl d_T_dropLastPart_2 ?_
  refine lv_iconst (v := nI 1) hx hb d_T_dropLastPart_5 (by decide) ?_
  refine lv_isub hx hb d_T_dropLastPart_6 ?_
  refine W.eq (g2 := F0 m 7 ls [.int (nI (xP z - 1)), .ref (a 0)]) (by show F0 m 7 ls [.int (nI (xP z) - nI 1), .ref (a 0)] = _; rw [pk_sub hp]) ?_
  refine va_put (D := (dC, dI)) (ci := 0) (v := .int (nI (xP z - 1))) (ty := .int) (C := R_T) (T := F_T) (N := 6) hx hb hB in_T tf_T ty_T nm_T hown hK hP hD hS 0 rfl rfl 3 (by decide) (hB _ bw_44) (fun _ h9 => h9) rfl (by decide +kernel) (rfl) (rfl) (Nat.le_of_ble_eq_true rfl) d_T_dropLastPart_7 (fun H locs hP hD hS => ?_)
  have hP : va_P (dC, dI) vwC (tW k a (tDrop z)) H := hP
  have hD : va_D A (tW k a (tDrop z)) := hD
  exact W.vret hx hb hr (fun t ht hW => ⟨⟨_, rfl, rfl, by show va_P (dC, dI) vwC _ t.heap; rw [ht]; exact hP⟩, hS.F ht⟩) hS.2.2 d_T_dropLastPart_10
