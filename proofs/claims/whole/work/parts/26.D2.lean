/-! The desk: the guards, and the calls. An open transaction has one to five parts (dOk). -/
def dOk (d : xDS) : Prop := ∀ t, t < 8 → xO (yT d t) = true → 1 ≤ xP (yT d t) ∧ xP (yT d t) ≤ 5
theorem ix_lt {n : Nat} {x : Int32} (hn : n < 2 ^ 31) (h : ix n x = none) (h1 : ¬ x < 0) (h2 : x < nI n) : False := by
  rcases ix_none hn h with q | q
  · exact h1 q
  · rw [Int32.le_iff_toInt_le] at q; rw [Int32.lt_iff_toInt_lt] at h2; omega
theorem ix_or (n : Nat) (x : Int32) : ix n x = none ∨ ∃ j, ix n x = some j := by cases ix n x; exact Or.inl rfl; exact Or.inr ⟨_, rfl⟩
set_option maxHeartbeats 4000000 in
set_option maxRecDepth 100000 in
theorem m_D_transactionOf (l : Launch) (dC : Nat → ClassId) (dI : Nat → Nat → Nat) (k : Nat → ClassId) (b : Nat → Nat) (sz : Nat) (d : xDS) (tt : Int32) (htr : l.stackTraces = false) : xt_Met l y_D_transactionOf w_D_transactionOf (rmx 6 1 6 82) (dPc dC dI k b sz d [.ref (b 0), .int tt]) (xt_Q (fun v u => ∃ j, ix 8 tt = some j ∧ v = some (.ref (yA b j 0)) ∧ u = d) (fun X u => ix 8 tt = none ∧ X = qA ∧ u = d) (dB dC dI k b) (va_A (dW k b d) sz)) 1 6 (va_A (dW k b d) sz) := by
  refine xt_ofW (cc := c_D_transactionOf) (maxL := 2) (ret := (some (.object "CommitDesk$Transaction"))) (by decide) rfl ?_
  intro p e s m args below meth c s₁ B hml hout hv
  obtain ⟨rfl, hsz, hP, hK, hD0, hTh⟩ := hv
  have hx := B.exec
  have hb := B.bytes
  have hr := B.returns
  have hts := atoms_spec (ws := w_D_transactionOf) B.pre
  have hB : ∀ w ∈ BIG, w.before _ s = true := fun w h => hts w (List.mem_cons_of_mem _ h)
  have hown : s.vm.findClass R_D = some m.cls := findClass_of_methodNamed B.named
  have hlocks := B.notSynchronized
  have hl := lv_entry ([.ref (b 0), .int tt]) (n := 2) (Nat.le_of_ble_eq_true rfl)
  rw [lg_entry_eq]
  generalize (lg_sl ([.ref (b 0), .int tt]) ++ List.replicate (2 - (lg_sl ([.ref (b 0), .int tt])).length) Slot.unset).toArray = ls at hl ⊢
  have hl : lv_has ls 2 [(0, .ref (b 0)), (1, .int tt)] := hl
  subst hsz
  have hst := xs_world hP
  have hD := hD0.self (sz := s.heap.size)
  generalize hAe : va_A (dW k b d) s.heap.size = A at hD hst ⊢
  have hA : ∀ q : Nat, s.heap.size ≤ q → A q := fun q h => by rw [← hAe]; exact Or.inr h
  have hS : va_S A s.heap s.heap [] := va_S.rf
  have hDk := hD
  rcases ix_or 8 tt with hq | ⟨j, hq⟩
  · skip
    refine lv_iload_n hx hb d_D_transactionOf_0 rfl (lv_at hl 1 rfl) ?_
    refine lv_if_lt hx hb d_D_transactionOf_1 rfl (fun h9 => ?_) (fun h9 => ?_)
    · skip
      exact xt_thr (Nat.le_of_ble_eq_true rfl) (Nat.le_of_ble_eq_true rfl) (xs_throw (names := xN) (tx := "no such transaction") hx hb htr (hl.1.trans hml.symm) hlocks hown xL_all hTh (xs_keep.of hS hst) (by decide) (by decide) xL_A (by decide) d_D_transactionOf_10 d_D_transactionOf_13 d_D_transactionOf_14 d_D_transactionOf_16 d_D_transactionOf_19 hout (Nat.le_of_ble_eq_true rfl) (Nat.le_of_ble_eq_true rfl) (Nat.le_of_ble_eq_true rfl) (Nat.le_of_ble_eq_true rfl) (fun t hold hge hW hI => ⟨Or.inr ⟨qA, _, d, rfl, ⟨hq, rfl, rfl⟩, hP.kept (fun _ q hk => hold q.1 (hP _ q hk).lt), hI, hS.1⟩, Nat.le_trans hS.1 hge, fun q h1 h2 => (hold q (Nat.lt_of_lt_of_le h1 hS.1)).trans (hS.2.1 q h1 h2)⟩) hS.2.2)
    · skip
      refine lv_iload_n hx hb d_D_transactionOf_4 rfl (lv_at hl 1 rfl) ?_
      refine lv_bipush (v := nI 8) hx hb d_D_transactionOf_5 (by decide) ?_
      refine lv_icmp_lt hx hb d_D_transactionOf_7 rfl (fun h8 => absurd (ix_lt (by decide) hq h9 h8) id) (fun h8 => ?_)
      exact xt_thr (Nat.le_of_ble_eq_true rfl) (Nat.le_of_ble_eq_true rfl) (xs_throw (names := xN) (tx := "no such transaction") hx hb htr (hl.1.trans hml.symm) hlocks hown xL_all hTh (xs_keep.of hS hst) (by decide) (by decide) xL_A (by decide) d_D_transactionOf_10 d_D_transactionOf_13 d_D_transactionOf_14 d_D_transactionOf_16 d_D_transactionOf_19 hout (Nat.le_of_ble_eq_true rfl) (Nat.le_of_ble_eq_true rfl) (Nat.le_of_ble_eq_true rfl) (Nat.le_of_ble_eq_true rfl) (fun t hold hge hW hI => ⟨Or.inr ⟨qA, _, d, rfl, ⟨hq, rfl, rfl⟩, hP.kept (fun _ q hk => hold q.1 (hP _ q hk).lt), hI, hS.1⟩, Nat.le_trans hS.1 hge, fun q h1 h2 => (hold q (Nat.lt_of_lt_of_le h1 hS.1)).trans (hS.2.1 q h1 h2)⟩) hS.2.2)
  · obtain ⟨hj, htj⟩ := ix_some (by decide) hq
    subst htj
    refine lv_iload_n hx hb d_D_transactionOf_0 rfl (lv_at hl 1 rfl) ?_
    refine lv_if_lt hx hb d_D_transactionOf_1 rfl (fun h9 => absurd h9 (nI_pos (by omega))) (fun _ => ?_)
    refine lv_iload_n hx hb d_D_transactionOf_4 rfl (lv_at hl 1 rfl) ?_
    refine lv_bipush (v := nI 8) hx hb d_D_transactionOf_5 (by decide) ?_
    refine lv_icmp_lt hx hb d_D_transactionOf_7 rfl (fun _ => ?_) (fun h9 => absurd (nI_lt hj (by omega)) h9)
    refine lv_aload_n hx hb d_D_transactionOf_20 rfl (lv_at hl 0 rfl) ?_
    refine va_get (D := (dC, dI)) (ci := 1) (v := .ref (b 3)) (C := R_D) (T := F_D) (N := 5) hx hb hB in_D hown hK hP 0 rfl rfl 2 (by decide) (hB _ bw_58) (fun _ h9 => h9) rfl d_D_transactionOf_21 ?_
    refine lv_iload_n hx hb d_D_transactionOf_24 rfl (lv_at hl 1 rfl) ?_
    refine va_aldq hx hb hK hP 3 3 rfl rfl (pk_in j 8 (by omega)) d_D_transactionOf_25 ?_
    refine W.eq (g2 := F0 m 26 ls [.ref (yA b j 0)]) (by show F0 _ _ _ (va_rf (some (yA b (nI j).toNatClampNeg 0)) :: _) = _; rw [cl_nI (by omega)]; first | done | rfl) ?_
    exact xt_fin (Nat.le_of_ble_eq_true rfl) (Nat.le_of_ble_eq_true rfl) (W.aret (v := .ref (yA b j 0)) hx hb hr (Or.inl ⟨_, rfl⟩) (Or.inr ⟨_, rfl⟩) (fun t ht hW => ⟨Or.inl ⟨some (.ref (yA b j 0)), d, rfl, ⟨j, hq, rfl, rfl⟩, by show va_P (dC, dI) vwC _ t.heap; rw [ht]; exact hP⟩, hS.F ht⟩) hS.2.2 d_D_transactionOf_26)
set_option maxHeartbeats 4000000 in
set_option maxRecDepth 100000 in
theorem m_D_requireCell (l : Launch) (dC : Nat → ClassId) (dI : Nat → Nat → Nat) (k : Nat → ClassId) (b : Nat → Nat) (sz : Nat) (d : xDS) (tt : Int32) (htr : l.stackTraces = false) : xt_Met l y_D_requireCell w_D_requireCell (rmx 6 1 6 82) (dPc dC dI k b sz d [.ref (b 0), .int tt]) (xt_Q (fun v u => ∃ j, ix 32 tt = some j ∧ v = none ∧ u = d) (fun X u => ix 32 tt = none ∧ X = qB ∧ u = d) (dB dC dI k b) (va_A (dW k b d) sz)) 1 6 (va_A (dW k b d) sz) := by
  refine xt_ofW (cc := c_D_requireCell) (maxL := 2) (ret := none) (by decide) rfl ?_
  intro p e s m args below meth c s₁ B hml hout hv
  obtain ⟨rfl, hsz, hP, hK, hD0, hTh⟩ := hv
  have hx := B.exec
  have hb := B.bytes
  have hr := B.returns
  have hts := atoms_spec (ws := w_D_requireCell) B.pre
  have hB : ∀ w ∈ BIG, w.before _ s = true := fun w h => hts w (List.mem_cons_of_mem _ h)
  have hown : s.vm.findClass R_D = some m.cls := findClass_of_methodNamed B.named
  have hlocks := B.notSynchronized
  have hl := lv_entry ([.ref (b 0), .int tt]) (n := 2) (Nat.le_of_ble_eq_true rfl)
  rw [lg_entry_eq]
  generalize (lg_sl ([.ref (b 0), .int tt]) ++ List.replicate (2 - (lg_sl ([.ref (b 0), .int tt])).length) Slot.unset).toArray = ls at hl ⊢
  have hl : lv_has ls 2 [(0, .ref (b 0)), (1, .int tt)] := hl
  subst hsz
  have hst := xs_world hP
  have hD := hD0.self (sz := s.heap.size)
  generalize hAe : va_A (dW k b d) s.heap.size = A at hD hst ⊢
  have hA : ∀ q : Nat, s.heap.size ≤ q → A q := fun q h => by rw [← hAe]; exact Or.inr h
  have hS : va_S A s.heap s.heap [] := va_S.rf
  have hDk := hD
  rcases ix_or 32 tt with hq | ⟨j, hq⟩
  · skip
    refine lv_iload_n hx hb d_D_requireCell_0 rfl (lv_at hl 1 rfl) ?_
    refine lv_if_lt hx hb d_D_requireCell_1 rfl (fun h9 => ?_) (fun h9 => ?_)
    · skip
      exact xt_thr (Nat.le_of_ble_eq_true rfl) (Nat.le_of_ble_eq_true rfl) (xs_throw (names := xN) (tx := "no such cell") hx hb htr (hl.1.trans hml.symm) hlocks hown xL_all hTh (xs_keep.of hS hst) (by decide) (by decide) xL_B (by decide) d_D_requireCell_10 d_D_requireCell_13 d_D_requireCell_14 d_D_requireCell_16 d_D_requireCell_19 hout (Nat.le_of_ble_eq_true rfl) (Nat.le_of_ble_eq_true rfl) (Nat.le_of_ble_eq_true rfl) (Nat.le_of_ble_eq_true rfl) (fun t hold hge hW hI => ⟨Or.inr ⟨qB, _, d, rfl, ⟨hq, rfl, rfl⟩, hP.kept (fun _ q hk => hold q.1 (hP _ q hk).lt), hI, hS.1⟩, Nat.le_trans hS.1 hge, fun q h1 h2 => (hold q (Nat.lt_of_lt_of_le h1 hS.1)).trans (hS.2.1 q h1 h2)⟩) hS.2.2)
    · skip
      refine lv_iload_n hx hb d_D_requireCell_4 rfl (lv_at hl 1 rfl) ?_
      refine lv_bipush (v := nI 32) hx hb d_D_requireCell_5 (by decide) ?_
      refine lv_icmp_lt hx hb d_D_requireCell_7 rfl (fun h8 => absurd (ix_lt (by decide) hq h9 h8) id) (fun h8 => ?_)
      exact xt_thr (Nat.le_of_ble_eq_true rfl) (Nat.le_of_ble_eq_true rfl) (xs_throw (names := xN) (tx := "no such cell") hx hb htr (hl.1.trans hml.symm) hlocks hown xL_all hTh (xs_keep.of hS hst) (by decide) (by decide) xL_B (by decide) d_D_requireCell_10 d_D_requireCell_13 d_D_requireCell_14 d_D_requireCell_16 d_D_requireCell_19 hout (Nat.le_of_ble_eq_true rfl) (Nat.le_of_ble_eq_true rfl) (Nat.le_of_ble_eq_true rfl) (Nat.le_of_ble_eq_true rfl) (fun t hold hge hW hI => ⟨Or.inr ⟨qB, _, d, rfl, ⟨hq, rfl, rfl⟩, hP.kept (fun _ q hk => hold q.1 (hP _ q hk).lt), hI, hS.1⟩, Nat.le_trans hS.1 hge, fun q h1 h2 => (hold q (Nat.lt_of_lt_of_le h1 hS.1)).trans (hS.2.1 q h1 h2)⟩) hS.2.2)
  · obtain ⟨hj, htj⟩ := ix_some (by decide) hq
    subst htj
    refine lv_iload_n hx hb d_D_requireCell_0 rfl (lv_at hl 1 rfl) ?_
    refine lv_if_lt hx hb d_D_requireCell_1 rfl (fun h9 => absurd h9 (nI_pos (by omega))) (fun _ => ?_)
    refine lv_iload_n hx hb d_D_requireCell_4 rfl (lv_at hl 1 rfl) ?_
    refine lv_bipush (v := nI 32) hx hb d_D_requireCell_5 (by decide) ?_
    refine lv_icmp_lt hx hb d_D_requireCell_7 rfl (fun _ => ?_) (fun h9 => absurd (nI_lt hj (by omega)) h9)
    exact xt_fin (Nat.le_of_ble_eq_true rfl) (Nat.le_of_ble_eq_true rfl) (W.vret hx hb hr (fun t ht hW => ⟨Or.inl ⟨none, d, rfl, ⟨j, hq, rfl, rfl⟩, by show va_P (dC, dI) vwC _ t.heap; rw [ht]; exact hP⟩, hS.F ht⟩) hS.2.2 d_D_requireCell_20)
set_option maxHeartbeats 4000000 in
set_option maxRecDepth 100000 in
theorem m_D_openTransactionOf (l : Launch) (dC : Nat → ClassId) (dI : Nat → Nat → Nat) (k : Nat → ClassId) (b : Nat → Nat) (sz : Nat) (d : xDS) (tt : Int32) (htr : l.stackTraces = false) : xt_Met l y_D_openTransactionOf w_D_openTransactionOf (rmx 7 2 12 103) (dPc dC dI k b sz d [.ref (b 0), .int tt]) (xt_Q (fun v u => ∃ j, ix 8 tt = some j ∧ xO (yT d j) = true ∧ v = some (.ref (yA b j 0)) ∧ u = d) (fun X u => ((ix 8 tt = none ∧ X = qA) ∨ ∃ j, ix 8 tt = some j ∧ xO (yT d j) = false ∧ X = qS) ∧ u = d) (dB dC dI k b) (va_A (dW k b d) sz)) 2 12 (va_A (dW k b d) sz) := by
  refine xt_ofW (cc := c_D_openTransactionOf) (maxL := 3) (ret := (some (.object "CommitDesk$Transaction"))) (by decide) rfl ?_
  intro p e s m args below meth c s₁ B hml hout hv
  obtain ⟨rfl, hsz, hP, hK, hD0, hTh⟩ := hv
  have hx := B.exec
  have hb := B.bytes
  have hr := B.returns
  have hts := atoms_spec (ws := w_D_openTransactionOf) B.pre
  have hB : ∀ w ∈ BIG, w.before _ s = true := fun w h => hts w (List.mem_cons_of_mem _ h)
  have hown : s.vm.findClass R_D = some m.cls := findClass_of_methodNamed B.named
  have hlocks := B.notSynchronized
  have hl := lv_entry ([.ref (b 0), .int tt]) (n := 3) (Nat.le_of_ble_eq_true rfl)
  rw [lg_entry_eq]
  generalize (lg_sl ([.ref (b 0), .int tt]) ++ List.replicate (3 - (lg_sl ([.ref (b 0), .int tt])).length) Slot.unset).toArray = ls at hl ⊢
  have hl : lv_has ls 3 [(0, .ref (b 0)), (1, .int tt)] := hl
  subst hsz
  have hst := xs_world hP
  have hD := hD0.self (sz := s.heap.size)
  generalize hAe : va_A (dW k b d) s.heap.size = A at hD hst ⊢
  have hA : ∀ q : Nat, s.heap.size ≤ q → A q := fun q h => by rw [← hAe]; exact Or.inr h
  have hS : va_S A s.heap s.heap [] := va_S.rf
  have hDk := hD
  refine lv_aload_n hx hb d_D_openTransactionOf_0 rfl (lv_at hl 0 rfl) ?_
  refine lv_iload_n hx hb d_D_openTransactionOf_1 rfl (lv_at hl 1 rfl) ?_
  have hFc := dW_all hD hS hA
  have hs0 := hS.1
  refine xt_cont (xt_runV (As := [.int tt]) (rest := []) ⟨hx, hb, hml, hown, hB⟩ (m_D_transactionOf l dC dI k b _ d tt htr) (cwV 1 hB (BIG_V bw_76 bw_77 bw_0 bw_16 bw_78) rfl rfl rfl ⟨rfl, by decide, by decide, by decide +kernel⟩ ⟨Nat.le_of_ble_eq_true rfl, Nat.le_of_ble_eq_true rfl⟩) (dPc_pre _ hP hK hD hTh (xs_keep.of hS hst)) rfl rfl hl.1 rfl (lv_room (Nat.le_of_ble_eq_true rfl)) d_D_openTransactionOf_2 ⟨Nat.le_of_ble_eq_true rfl, Nat.le_of_ble_eq_true rfl⟩) hS (fun q _ h => hFc q h) hFc ?_ (fun X x8 u t H1 locs ht hvm hw hB1 hI hx1 hz1 hk1 hS => ?_)
  rotate_left
  · exact xt_thrW (Nat.le_of_ble_eq_true rfl) (Nat.le_of_ble_eq_true rfl) (xt_out hout (fun t2 ht2 hW2 => ⟨Or.inr ⟨X, x8, u, rfl, (by obtain ⟨h1, h2, h3⟩ := hw; exact ⟨Or.inl ⟨h1, h2⟩, h3⟩), by show va_P (dC, dI) vwC _ t2.heap; rw [ht2, ← ht]; exact hB1, hI.mv (by rw [ht2, ht]) hvm hW2.alike, Nat.le_trans hs0 hx1⟩, hS.F ht2⟩) hS.2.2 hlocks)
  intro v8 u t H1 locs ht hvm hw hB1 hz1 hk1 hS
  obtain ⟨j, hq, rfl, hu⟩ := hw
  rw [hu] at hB1
  have hP : va_P (dC, dI) vwC (dW k b d) H1 := by rw [← ht]; exact hB1
  clear hFc hB1 hk1 hz1 ht hvm hs0
  generalize H1 = H at hP hS ⊢
  refine W.eq (g2 := F0 m 5 ls [.ref (yA b j 0)]) (rfl) ?_
  obtain ⟨hj, htj⟩ := ix_some (by decide) hq
  refine lv_astore_n hx hb d_D_openTransactionOf_5 rfl hl (by decide) rfl (fun ls hl => ?_)
  have hl : lv_has ls 3 [(2, .ref (yA b j 0)), (0, .ref (b 0)), (1, .int tt)] := hl
  refine lv_aload_n hx hb d_D_openTransactionOf_6 rfl (lv_at hl 0 rfl) ?_
  refine vp_callSi (va_Run.run (va_runV (As := []) (rest := []) ⟨hx, hb, hml, hown, hB⟩ (m_T_isOpen l dC dI k (yA b j) (yT d j)) (cwV 0 hB (BIG_V bw_127 bw_128 bw_129 bw_17 bw_130) rfl rfl rfl ⟨rfl, by decide, by decide, by decide +kernel⟩ ⟨Nat.le_of_ble_eq_true rfl, Nat.le_of_ble_eq_true rfl⟩) (tRc_pre _ (dW_t hj hP) hK) rfl rfl hl.1 rfl (lv_room (Nat.le_of_ble_eq_true rfl)) d_D_openTransactionOf_7 ⟨Nat.le_of_ble_eq_true rfl, Nat.le_of_ble_eq_true rfl⟩)) (fun r7 hr7 => ?_)
  subst hr7
  cases ho : xO (yT d j) with
  | false =>
    refine lv_if_ne hx hb d_D_openTransactionOf_10 rfl (fun h9 => absurd h9 (by decide)) (fun _ => ?_)
    exact xt_thr (Nat.le_of_ble_eq_true rfl) (Nat.le_of_ble_eq_true rfl) (xs_throw (names := xN) (tx := "the transaction is not open") hx hb htr (hl.1.trans hml.symm) hlocks hown xL_all hTh (xs_keep.of hS hst) (by decide) (by decide) xL_S (by decide) d_D_openTransactionOf_13 d_D_openTransactionOf_16 d_D_openTransactionOf_17 d_D_openTransactionOf_19 d_D_openTransactionOf_22 hout (Nat.le_of_ble_eq_true rfl) (Nat.le_of_ble_eq_true rfl) (Nat.le_of_ble_eq_true rfl) (Nat.le_of_ble_eq_true rfl) (fun t hold hge hW hI => ⟨Or.inr ⟨qS, _, d, rfl, ⟨Or.inr ⟨j, hq, ho, rfl⟩, rfl⟩, hP.kept (fun _ q hk => hold q.1 (hP _ q hk).lt), hI, hS.1⟩, Nat.le_trans hS.1 hge, fun q h1 h2 => (hold q (Nat.lt_of_lt_of_le h1 hS.1)).trans (hS.2.1 q h1 h2)⟩) hS.2.2)
  | true =>
    refine lv_if_ne hx hb d_D_openTransactionOf_10 rfl (fun _ => ?_) (fun h9 => absurd h9 (by decide))
    refine lv_aload_n hx hb d_D_openTransactionOf_23 rfl (lv_at hl 0 rfl) ?_
    exact xt_fin (Nat.le_of_ble_eq_true rfl) (Nat.le_of_ble_eq_true rfl) (W.aret (v := .ref (yA b j 0)) hx hb hr (Or.inl ⟨_, rfl⟩) (Or.inr ⟨_, rfl⟩) (fun t ht hW => ⟨Or.inl ⟨some (.ref (yA b j 0)), d, rfl, ⟨j, hq, ho, rfl, rfl⟩, by show va_P (dC, dI) vwC _ t.heap; rw [ht]; exact hP⟩, hS.F ht⟩) hS.2.2 d_D_openTransactionOf_24)
set_option maxHeartbeats 4000000 in
set_option maxRecDepth 100000 in
theorem m_D_openTransactionAt (l : Launch) (dC : Nat → ClassId) (dI : Nat → Nat → Nat) (k : Nat → ClassId) (b : Nat → Nat) (sz : Nat) (d : xDS) (tt kk : Int32) (htr : l.stackTraces = false) : xt_Met l y_D_openTransactionAt w_D_openTransactionAt (rmx 8 4 24 125) (dPc dC dI k b sz d [.ref (b 0), .int tt, .int kk]) (xt_Q (fun v u => ∃ j i, ix 8 tt = some j ∧ ix 32 kk = some i ∧ xO (yT d j) = true ∧ v = some (.ref (yA b j 0)) ∧ u = d) (fun X u => ((ix 8 tt = none ∧ X = qA) ∨ ∃ j, ix 8 tt = some j ∧ ((ix 32 kk = none ∧ X = qB) ∨ ∃ i, ix 32 kk = some i ∧ xO (yT d j) = false ∧ X = qS)) ∧ u = d) (dB dC dI k b) (va_A (dW k b d) sz)) 4 24 (va_A (dW k b d) sz) := by
  refine xt_ofW (cc := c_D_openTransactionAt) (maxL := 3) (ret := (some (.object "CommitDesk$Transaction"))) (by decide) rfl ?_
  intro p e s m args below meth c s₁ B hml hout hv
  obtain ⟨rfl, hsz, hP, hK, hD0, hTh⟩ := hv
  have hx := B.exec
  have hb := B.bytes
  have hr := B.returns
  have hts := atoms_spec (ws := w_D_openTransactionAt) B.pre
  have hB : ∀ w ∈ BIG, w.before _ s = true := fun w h => hts w (List.mem_cons_of_mem _ h)
  have hown : s.vm.findClass R_D = some m.cls := findClass_of_methodNamed B.named
  have hlocks := B.notSynchronized
  have hl := lv_entry ([.ref (b 0), .int tt, .int kk]) (n := 3) (Nat.le_of_ble_eq_true rfl)
  rw [lg_entry_eq]
  generalize (lg_sl ([.ref (b 0), .int tt, .int kk]) ++ List.replicate (3 - (lg_sl ([.ref (b 0), .int tt, .int kk])).length) Slot.unset).toArray = ls at hl ⊢
  have hl : lv_has ls 3 [(0, .ref (b 0)), (1, .int tt), (2, .int kk)] := hl
  subst hsz
  have hst := xs_world hP
  have hD := hD0.self (sz := s.heap.size)
  generalize hAe : va_A (dW k b d) s.heap.size = A at hD hst ⊢
  have hA : ∀ q : Nat, s.heap.size ≤ q → A q := fun q h => by rw [← hAe]; exact Or.inr h
  have hS : va_S A s.heap s.heap [] := va_S.rf
  have hDk := hD
  refine lv_aload_n hx hb d_D_openTransactionAt_0 rfl (lv_at hl 0 rfl) ?_
  refine lv_iload_n hx hb d_D_openTransactionAt_1 rfl (lv_at hl 1 rfl) ?_
  have hFc := dW_all hD hS hA
  have hs0 := hS.1
  refine xt_cont (xt_runV (As := [.int tt]) (rest := []) ⟨hx, hb, hml, hown, hB⟩ (m_D_transactionOf l dC dI k b _ d tt htr) (cwV 1 hB (BIG_V bw_76 bw_77 bw_0 bw_16 bw_78) rfl rfl rfl ⟨rfl, by decide, by decide, by decide +kernel⟩ ⟨Nat.le_of_ble_eq_true rfl, Nat.le_of_ble_eq_true rfl⟩) (dPc_pre _ hP hK hD hTh (xs_keep.of hS hst)) rfl rfl hl.1 rfl (lv_room (Nat.le_of_ble_eq_true rfl)) d_D_openTransactionAt_2 ⟨Nat.le_of_ble_eq_true rfl, Nat.le_of_ble_eq_true rfl⟩) hS (fun q _ h => hFc q h) hFc ?_ (fun X x8 u t H1 locs ht hvm hw hB1 hI hx1 hz1 hk1 hS => ?_)
  rotate_left
  · exact xt_thrW (Nat.le_of_ble_eq_true rfl) (Nat.le_of_ble_eq_true rfl) (xt_out hout (fun t2 ht2 hW2 => ⟨Or.inr ⟨X, x8, u, rfl, (by obtain ⟨h1, h2, h3⟩ := hw; exact ⟨Or.inl ⟨h1, h2⟩, h3⟩), by show va_P (dC, dI) vwC _ t2.heap; rw [ht2, ← ht]; exact hB1, hI.mv (by rw [ht2, ht]) hvm hW2.alike, Nat.le_trans hs0 hx1⟩, hS.F ht2⟩) hS.2.2 hlocks)
  intro v8 u t H1 locs ht hvm hw hB1 hz1 hk1 hS
  obtain ⟨j, hq, rfl, hu⟩ := hw
  rw [hu] at hB1
  have hP : va_P (dC, dI) vwC (dW k b d) H1 := by rw [← ht]; exact hB1
  clear hFc hB1 hk1 hz1 ht hvm hs0
  generalize H1 = H at hP hS ⊢
  refine W.eq (g2 := F0 m 5 ls [.ref (yA b j 0)]) (rfl) ?_
  refine lv_pop hx hb d_D_openTransactionAt_5 rfl ?_
  refine lv_aload_n hx hb d_D_openTransactionAt_6 rfl (lv_at hl 0 rfl) ?_
  refine lv_iload_n hx hb d_D_openTransactionAt_7 rfl (lv_at hl 2 rfl) ?_
  have hFc := dW_all hD hS hA
  have hs0 := hS.1
  refine xt_cont (xt_runV (As := [.int kk]) (rest := []) ⟨hx, hb, hml, hown, hB⟩ (m_D_requireCell l dC dI k b _ d kk htr) (cwV 1 hB (BIG_V bw_161 bw_162 bw_3 bw_16 bw_163) rfl rfl rfl ⟨rfl, by decide, by decide, by decide +kernel⟩ ⟨Nat.le_of_ble_eq_true rfl, Nat.le_of_ble_eq_true rfl⟩) (dPc_pre _ hP hK hD hTh (xs_keep.of hS hst)) rfl rfl hl.1 rfl (lv_room (Nat.le_of_ble_eq_true rfl)) d_D_openTransactionAt_8 ⟨Nat.le_of_ble_eq_true rfl, Nat.le_of_ble_eq_true rfl⟩) hS (fun q _ h => hFc q h) hFc ?_ (fun X x8 u t H1 locs ht hvm hw hB1 hI hx1 hz1 hk1 hS => ?_)
  rotate_left
  · exact xt_thrW (Nat.le_of_ble_eq_true rfl) (Nat.le_of_ble_eq_true rfl) (xt_out hout (fun t2 ht2 hW2 => ⟨Or.inr ⟨X, x8, u, rfl, (by obtain ⟨h1, h2, h3⟩ := hw; exact ⟨Or.inr ⟨j, hq, Or.inl ⟨h1, h2⟩⟩, h3⟩), by show va_P (dC, dI) vwC _ t2.heap; rw [ht2, ← ht]; exact hB1, hI.mv (by rw [ht2, ht]) hvm hW2.alike, Nat.le_trans hs0 hx1⟩, hS.F ht2⟩) hS.2.2 hlocks)
  intro v8 u t H1 locs ht hvm hw hB1 hz1 hk1 hS
  obtain ⟨i, hy, rfl, hu⟩ := hw
  rw [hu] at hB1
  have hP : va_P (dC, dI) vwC (dW k b d) H1 := by rw [← ht]; exact hB1
  clear hFc hB1 hk1 hz1 ht hvm hs0
  generalize H1 = H at hP hS ⊢
  refine W.eq (g2 := F0 m 11 ls []) (rfl) ?_
  refine lv_aload_n hx hb d_D_openTransactionAt_11 rfl (lv_at hl 0 rfl) ?_
  refine lv_iload_n hx hb d_D_openTransactionAt_12 rfl (lv_at hl 1 rfl) ?_
  have hFc := dW_all hD hS hA
  have hs0 := hS.1
  refine xt_cont (xt_runV (As := [.int tt]) (rest := []) ⟨hx, hb, hml, hown, hB⟩ (m_D_openTransactionOf l dC dI k b _ d tt htr) (cwV 1 hB (BIG_V bw_178 bw_179 bw_4 bw_16 bw_180) rfl rfl rfl ⟨rfl, by decide, by decide, by decide +kernel⟩ ⟨Nat.le_of_ble_eq_true rfl, Nat.le_of_ble_eq_true rfl⟩) (dPc_pre _ hP hK hD hTh (xs_keep.of hS hst)) rfl rfl hl.1 rfl (lv_room (Nat.le_of_ble_eq_true rfl)) d_D_openTransactionAt_13 ⟨Nat.le_of_ble_eq_true rfl, Nat.le_of_ble_eq_true rfl⟩) hS (fun q _ h => hFc q h) hFc ?_ (fun X x8 u t H1 locs ht hvm hw hB1 hI hx1 hz1 hk1 hS => ?_)
  rotate_left
  · exact xt_thrW (Nat.le_of_ble_eq_true rfl) (Nat.le_of_ble_eq_true rfl) (xt_out hout (fun t2 ht2 hW2 => ⟨Or.inr ⟨X, x8, u, rfl, (by obtain ⟨h1 | ⟨j2, h1, h2, h3⟩, h4⟩ := hw; exact absurd (h1.1.symm.trans hq) (fun z => nomatch z); have hjj : j2 = j := Option.some.inj (h1.symm.trans hq); subst hjj; exact ⟨Or.inr ⟨j2, hq, Or.inr ⟨i, hy, h2, h3⟩⟩, h4⟩), by show va_P (dC, dI) vwC _ t2.heap; rw [ht2, ← ht]; exact hB1, hI.mv (by rw [ht2, ht]) hvm hW2.alike, Nat.le_trans hs0 hx1⟩, hS.F ht2⟩) hS.2.2 hlocks)
  intro v8 u t H1 locs ht hvm hw hB1 hz1 hk1 hS
  obtain ⟨j2, hq2, ho, rfl, hu⟩ := hw
  rw [hu] at hB1
  have hP : va_P (dC, dI) vwC (dW k b d) H1 := by rw [← ht]; exact hB1
  clear hFc hB1 hk1 hz1 ht hvm hs0
  generalize H1 = H at hP hS ⊢
  refine W.eq (g2 := F0 m 16 ls [.ref (yA b j2 0)]) (rfl) ?_
  exact xt_fin (Nat.le_of_ble_eq_true rfl) (Nat.le_of_ble_eq_true rfl) (W.aret (v := .ref (yA b j2 0)) hx hb hr (Or.inl ⟨_, rfl⟩) (Or.inr ⟨_, rfl⟩) (fun t ht hW => ⟨Or.inl ⟨some (.ref (yA b j2 0)), d, rfl, ⟨j2, i, hq2, hy, ho, rfl, rfl⟩, by show va_P (dC, dI) vwC _ t.heap; rw [ht]; exact hP⟩, hS.F ht⟩) hS.2.2 d_D_openTransactionAt_16)
set_option maxHeartbeats 4000000 in
set_option maxRecDepth 100000 in
theorem m_D_transactionWithSeveralParts (l : Launch) (dC : Nat → ClassId) (dI : Nat → Nat → Nat) (k : Nat → ClassId) (b : Nat → Nat) (sz : Nat) (d : xDS) (tt : Int32) (htr : l.stackTraces = false) (hok : dOk d) : xt_Met l y_D_transactionWithSeveralParts w_D_transactionWithSeveralParts (rmx 8 3 18 125) (dPc dC dI k b sz d [.ref (b 0), .int tt]) (xt_Q (fun v u => ∃ j, ix 8 tt = some j ∧ xO (yT d j) = true ∧ ¬ xP (yT d j) ≤ 1 ∧ v = some (.ref (yA b j 0)) ∧ u = d) (fun X u => ((ix 8 tt = none ∧ X = qA) ∨ ∃ j, ix 8 tt = some j ∧ ((xO (yT d j) = false ∧ X = qS) ∨ (xO (yT d j) = true ∧ xP (yT d j) ≤ 1 ∧ X = qU))) ∧ u = d) (dB dC dI k b) (va_A (dW k b d) sz)) 3 18 (va_A (dW k b d) sz) := by
  refine xt_ofW (cc := c_D_transactionWithSeveralParts) (maxL := 3) (ret := (some (.object "CommitDesk$Transaction"))) (by decide) rfl ?_
  intro p e s m args below meth c s₁ B hml hout hv
  obtain ⟨rfl, hsz, hP, hK, hD0, hTh⟩ := hv
  have hx := B.exec
  have hb := B.bytes
  have hr := B.returns
  have hts := atoms_spec (ws := w_D_transactionWithSeveralParts) B.pre
  have hB : ∀ w ∈ BIG, w.before _ s = true := fun w h => hts w (List.mem_cons_of_mem _ h)
  have hown : s.vm.findClass R_D = some m.cls := findClass_of_methodNamed B.named
  have hlocks := B.notSynchronized
  have hl := lv_entry ([.ref (b 0), .int tt]) (n := 3) (Nat.le_of_ble_eq_true rfl)
  rw [lg_entry_eq]
  generalize (lg_sl ([.ref (b 0), .int tt]) ++ List.replicate (3 - (lg_sl ([.ref (b 0), .int tt])).length) Slot.unset).toArray = ls at hl ⊢
  have hl : lv_has ls 3 [(0, .ref (b 0)), (1, .int tt)] := hl
  subst hsz
  have hst := xs_world hP
  have hD := hD0.self (sz := s.heap.size)
  generalize hAe : va_A (dW k b d) s.heap.size = A at hD hst ⊢
  have hA : ∀ q : Nat, s.heap.size ≤ q → A q := fun q h => by rw [← hAe]; exact Or.inr h
  have hS : va_S A s.heap s.heap [] := va_S.rf
  have hDk := hD
  refine lv_aload_n hx hb d_D_transactionWithSeveralParts_0 rfl (lv_at hl 0 rfl) ?_
  refine lv_iload_n hx hb d_D_transactionWithSeveralParts_1 rfl (lv_at hl 1 rfl) ?_
  have hFc := dW_all hD hS hA
  have hs0 := hS.1
  refine xt_cont (xt_runV (As := [.int tt]) (rest := []) ⟨hx, hb, hml, hown, hB⟩ (m_D_openTransactionOf l dC dI k b _ d tt htr) (cwV 1 hB (BIG_V bw_178 bw_179 bw_4 bw_16 bw_180) rfl rfl rfl ⟨rfl, by decide, by decide, by decide +kernel⟩ ⟨Nat.le_of_ble_eq_true rfl, Nat.le_of_ble_eq_true rfl⟩) (dPc_pre _ hP hK hD hTh (xs_keep.of hS hst)) rfl rfl hl.1 rfl (lv_room (Nat.le_of_ble_eq_true rfl)) d_D_transactionWithSeveralParts_2 ⟨Nat.le_of_ble_eq_true rfl, Nat.le_of_ble_eq_true rfl⟩) hS (fun q _ h => hFc q h) hFc ?_ (fun X x8 u t H1 locs ht hvm hw hB1 hI hx1 hz1 hk1 hS => ?_)
  rotate_left
  · exact xt_thrW (Nat.le_of_ble_eq_true rfl) (Nat.le_of_ble_eq_true rfl) (xt_out hout (fun t2 ht2 hW2 => ⟨Or.inr ⟨X, x8, u, rfl, (by obtain ⟨h1 | ⟨j, h1, h2, h3⟩, h4⟩ := hw; exact ⟨Or.inl h1, h4⟩; exact ⟨Or.inr ⟨j, h1, Or.inl ⟨h2, h3⟩⟩, h4⟩), by show va_P (dC, dI) vwC _ t2.heap; rw [ht2, ← ht]; exact hB1, hI.mv (by rw [ht2, ht]) hvm hW2.alike, Nat.le_trans hs0 hx1⟩, hS.F ht2⟩) hS.2.2 hlocks)
  intro v8 u t H1 locs ht hvm hw hB1 hz1 hk1 hS
  obtain ⟨j, hq, ho, rfl, hu⟩ := hw
  rw [hu] at hB1
  have hP : va_P (dC, dI) vwC (dW k b d) H1 := by rw [← ht]; exact hB1
  clear hFc hB1 hk1 hz1 ht hvm hs0
  generalize H1 = H at hP hS ⊢
  refine W.eq (g2 := F0 m 5 ls [.ref (yA b j 0)]) (rfl) ?_
  obtain ⟨hj, htj⟩ := ix_some (by decide) hq
  obtain ⟨hp1, hp5⟩ := hok j hj ho
  refine lv_astore_n hx hb d_D_transactionWithSeveralParts_5 rfl hl (by decide) rfl (fun ls hl => ?_)
  have hl : lv_has ls 3 [(2, .ref (yA b j 0)), (0, .ref (b 0)), (1, .int tt)] := hl
  refine lv_aload_n hx hb d_D_transactionWithSeveralParts_6 rfl (lv_at hl 0 rfl) ?_
  refine vp_callSi (va_Run.run (va_runV (As := []) (rest := []) ⟨hx, hb, hml, hown, hB⟩ (m_T_partCount l dC dI k (yA b j) (yT d j)) (cwV 0 hB (BIG_V bw_242 bw_243 bw_244 bw_17 bw_245) rfl rfl rfl ⟨rfl, by decide, by decide, by decide +kernel⟩ ⟨Nat.le_of_ble_eq_true rfl, Nat.le_of_ble_eq_true rfl⟩) (tRc_pre _ (dW_t hj hP) hK) rfl rfl hl.1 rfl (lv_room (Nat.le_of_ble_eq_true rfl)) d_D_transactionWithSeveralParts_7 ⟨Nat.le_of_ble_eq_true rfl, Nat.le_of_ble_eq_true rfl⟩)) (fun r7 hr7 => ?_)
  subst hr7
  refine lv_iconst (v := nI 1) hx hb d_D_transactionWithSeveralParts_10 (by decide) ?_
  refine lv_icmp_gt hx hb d_D_transactionWithSeveralParts_11 rfl (fun h9 => ?_) (fun h9 => ?_)
  · have h8 : ¬ xP (yT d j) ≤ 1 := fun q => absurd h9 (nI_nlt q (by omega))
    refine lv_aload_n hx hb d_D_transactionWithSeveralParts_24 rfl (lv_at hl 0 rfl) ?_
    exact xt_fin (Nat.le_of_ble_eq_true rfl) (Nat.le_of_ble_eq_true rfl) (W.aret (v := .ref (yA b j 0)) hx hb hr (Or.inl ⟨_, rfl⟩) (Or.inr ⟨_, rfl⟩) (fun t ht hW => ⟨Or.inl ⟨some (.ref (yA b j 0)), d, rfl, ⟨j, hq, ho, h8, rfl, rfl⟩, by show va_P (dC, dI) vwC _ t.heap; rw [ht]; exact hP⟩, hS.F ht⟩) hS.2.2 d_D_transactionWithSeveralParts_25)
  · have h8 : xP (yT d j) ≤ 1 := Nat.le_of_not_lt (fun q => h9 (nI_lt q (by omega)))
    exact xt_thr (Nat.le_of_ble_eq_true rfl) (Nat.le_of_ble_eq_true rfl) (xs_throw (names := xN) (tx := "there is one part") hx hb htr (hl.1.trans hml.symm) hlocks hown xL_all hTh (xs_keep.of hS hst) (by decide) (by decide) xL_U (by decide) d_D_transactionWithSeveralParts_14 d_D_transactionWithSeveralParts_17 d_D_transactionWithSeveralParts_18 d_D_transactionWithSeveralParts_20 d_D_transactionWithSeveralParts_23 hout (Nat.le_of_ble_eq_true rfl) (Nat.le_of_ble_eq_true rfl) (Nat.le_of_ble_eq_true rfl) (Nat.le_of_ble_eq_true rfl) (fun t hold hge hW hI => ⟨Or.inr ⟨qU, _, d, rfl, ⟨Or.inr ⟨j, hq, Or.inr ⟨ho, h8, rfl⟩⟩, rfl⟩, hP.kept (fun _ q hk => hold q.1 (hP _ q hk).lt), hI, hS.1⟩, Nat.le_trans hS.1 hge, fun q h1 h2 => (hold q (Nat.lt_of_lt_of_le h1 hS.1)).trans (hS.2.1 q h1 h2)⟩) hS.2.2)
