/-! The desk: the thirteen calls. -/
set_option maxHeartbeats 4000000 in
set_option maxRecDepth 100000 in
theorem m_D_begin (l : Launch) (dC : Nat → ClassId) (dI : Nat → Nat → Nat) (k : Nat → ClassId) (b : Nat → Nat) (sz : Nat) (d : xDS) (tt : Int32) (htr : l.stackTraces = false) : xt_Met l y_D_begin w_D_begin (rmx 7 2 12 103) (dPc dC dI k b sz d [.ref (b 0), .int tt]) (xt_Q (fun v u => v = none ∧ (none, u) = yBegin d tt) (fun X u => (some X, u) = yBegin d tt) (dB dC dI k b) (va_A (dW k b d) sz)) 2 12 (va_A (dW k b d) sz) := by
  refine xt_ofW (cc := c_D_begin) (maxL := 3) (ret := none) (by decide) rfl ?_
  intro p e s m args below meth c s₁ B hml hout hv
  obtain ⟨rfl, hsz, hP, hK, hD0, hTh⟩ := hv
  have hx := B.exec
  have hb := B.bytes
  have hr := B.returns
  have hts := atoms_spec (ws := w_D_begin) B.pre
  have hB : ∀ w ∈ BIG, w.before _ s = true := fun w h => hts w (List.mem_cons_of_mem _ h)
  have hown : s.vm.findClass R_D = some m.cls := findClass_of_methodNamed B.named
  have hlocks := B.notSynchronized
  have hl := lv_entry ([.ref (b 0), .int tt]) (n := 3) (Nat.le_of_ble_eq_true rfl)
  rw [lg_entry_eq]
  generalize (lg_sl ([.ref (b 0), .int tt]) ++ List.replicate (3 - (lg_sl ([.ref (b 0), .int tt])).length) Slot.unset).toArray = ls at hl ⊢
  have hl : lv_has ls 3 [(0, .ref (b 0)), (1, .int tt)] := hl
  subst hsz
  have hst := xs_world hP
  have hD := hD0.self (sz := s.heap.size)
  generalize hAe : va_A (dW k b d) s.heap.size = A at hD hst ⊢
  have hA : ∀ q : Nat, s.heap.size ≤ q → A q := fun q h => by rw [← hAe]; exact Or.inr h
  have hS : va_S A s.heap s.heap [] := va_S.rf
  have hDk := hD
  refine lv_aload_n hx hb d_D_begin_0 rfl (lv_at hl 0 rfl) ?_
  refine lv_iload_n hx hb d_D_begin_1 rfl (lv_at hl 1 rfl) ?_
  have hFc := dW_all hD hS hA
  have hs0 := hS.1
  refine xt_cont (xt_runV (As := [.int tt]) (rest := []) ⟨hx, hb, hml, hown, hB⟩ (m_D_transactionOf l dC dI k b _ d tt htr) (cwV 1 hB (BIG_V bw_76 bw_77 bw_0 bw_16 bw_78) rfl rfl rfl ⟨rfl, by decide, by decide, by decide +kernel⟩ ⟨Nat.le_of_ble_eq_true rfl, Nat.le_of_ble_eq_true rfl⟩) (dPc_pre _ hP hK hD hTh (xs_keep.of hS hst)) rfl rfl hl.1 rfl (lv_room (Nat.le_of_ble_eq_true rfl)) d_D_begin_2 ⟨Nat.le_of_ble_eq_true rfl, Nat.le_of_ble_eq_true rfl⟩) hS (fun q _ h => hFc q h) hFc ?_ (fun X x8 u t H1 locs ht hvm hw hB1 hI hx1 hz1 hk1 hS => ?_)
  rotate_left
  · exact xt_thrW (Nat.le_of_ble_eq_true rfl) (Nat.le_of_ble_eq_true rfl) (xt_out hout (fun t2 ht2 hW2 => ⟨Or.inr ⟨X, x8, u, rfl, (by obtain ⟨h1, h2, h3⟩ := hw; rw [h2, h3]; unfold yBegin; rw [h1]), by show va_P (dC, dI) vwC _ t2.heap; rw [ht2, ← ht]; exact hB1, hI.mv (by rw [ht2, ht]) hvm hW2.alike, Nat.le_trans hs0 hx1⟩, hS.F ht2⟩) hS.2.2 hlocks)
  intro v8 u t H1 locs ht hvm hw hB1 hz1 hk1 hS
  obtain ⟨j, hq, rfl, hu⟩ := hw
  rw [hu] at hB1
  have hP : va_P (dC, dI) vwC (dW k b d) H1 := by rw [← ht]; exact hB1
  clear hFc hB1 hk1 hz1 ht hvm hs0
  generalize H1 = H at hP hS ⊢
  refine W.eq (g2 := F0 m 5 ls [.ref (yA b j 0)]) (rfl) ?_
  obtain ⟨hj, htj⟩ := ix_some (by decide) hq
  refine lv_astore_n hx hb d_D_begin_5 rfl hl (by decide) rfl (fun ls hl => ?_)
  have hl : lv_has ls 3 [(2, .ref (yA b j 0)), (0, .ref (b 0)), (1, .int tt)] := hl
  refine lv_aload_n hx hb d_D_begin_6 rfl (lv_at hl 0 rfl) ?_
  refine vp_callSi (va_Run.run (va_runV (As := []) (rest := []) ⟨hx, hb, hml, hown, hB⟩ (m_T_isOpen l dC dI k (yA b j) (yT d j)) (cwV 0 hB (BIG_V bw_127 bw_128 bw_129 bw_17 bw_130) rfl rfl rfl ⟨rfl, by decide, by decide, by decide +kernel⟩ ⟨Nat.le_of_ble_eq_true rfl, Nat.le_of_ble_eq_true rfl⟩) (tRc_pre _ (dW_t hj hP) hK) rfl rfl hl.1 rfl (lv_room (Nat.le_of_ble_eq_true rfl)) d_D_begin_7 ⟨Nat.le_of_ble_eq_true rfl, Nat.le_of_ble_eq_true rfl⟩)) (fun r7 hr7 => ?_)
  subst hr7
  cases ho : xO (yT d j) with
  | true =>
    refine lv_if_eq hx hb d_D_begin_10 rfl (fun h9 => absurd h9 (by decide)) (fun _ => ?_)
    exact xt_thr (Nat.le_of_ble_eq_true rfl) (Nat.le_of_ble_eq_true rfl) (xs_throw (names := xN) (tx := "the transaction is open") hx hb htr (hl.1.trans hml.symm) hlocks hown xL_all hTh (xs_keep.of hS hst) (by decide) (by decide) xL_S (by decide) d_D_begin_13 d_D_begin_16 d_D_begin_17 d_D_begin_19 d_D_begin_22 hout (Nat.le_of_ble_eq_true rfl) (Nat.le_of_ble_eq_true rfl) (Nat.le_of_ble_eq_true rfl) (Nat.le_of_ble_eq_true rfl) (fun t hold hge hW hI => ⟨Or.inr ⟨qS, _, d, rfl, by unfold yBegin; rw [hq]; dsimp only; rw [if_pos ho]; first | done | rfl, hP.kept (fun _ q hk => hold q.1 (hP _ q hk).lt), hI, hS.1⟩, Nat.le_trans hS.1 hge, fun q h1 h2 => (hold q (Nat.lt_of_lt_of_le h1 hS.1)).trans (hS.2.1 q h1 h2)⟩) hS.2.2)
  | false =>
    refine lv_if_eq hx hb d_D_begin_10 rfl (fun _ => ?_) (fun h9 => absurd (by decide) h9)
    refine lv_aload_n hx hb d_D_begin_23 rfl (lv_at hl 0 rfl) ?_
    have hFc := dW_free hj hD hS hA
    refine va_callv (va_runV (As := []) (rest := []) ⟨hx, hb, hml, hown, hB⟩ (m_T_start l dC dI k (yA b j) _ (yT d j)) (cwV 0 hB (BIG_V bw_145 bw_146 bw_147 bw_17 bw_148) rfl rfl rfl ⟨rfl, by decide, by decide, by decide +kernel⟩ ⟨Nat.le_of_ble_eq_true rfl, Nat.le_of_ble_eq_true rfl⟩) (tPc_pre _ (dW_t hj hP) hK (dW_tD hj hD)) rfl rfl hl.1 rfl (lv_room (Nat.le_of_ble_eq_true rfl)) d_D_begin_24 ⟨Nat.le_of_ble_eq_true rfl, Nat.le_of_ble_eq_true rfl⟩) hS (fun q _ h => hFc q h) hFc (fun u t H1 locs ht hvm hw hB1 hz1 hk1 hS => ?_)
    subst hw
    have hP : va_P (dC, dI) vwC (dW k b (yN d, yC d, va_up (yT d) j (tStart (yT d j)), yD d, yS d)) H1 := by rw [← ht] at hk1 ⊢; exact dW_join hj hP hD hB1 hk1
    have hD : va_D A (dW k b (yN d, yC d, va_up (yT d) j (tStart (yT d j)), yD d, yS d)) := dW_D hDk
    clear hFc hB1 hk1 hz1 ht hvm
    generalize H1 = H at hP hS ⊢
    exact xt_fin (Nat.le_of_ble_eq_true rfl) (Nat.le_of_ble_eq_true rfl) (W.vret hx hb hr (fun t ht hW => ⟨Or.inl ⟨none, (yN d, yC d, va_up (yT d) j (tStart (yT d j)), yD d, yS d), rfl, ⟨rfl, by unfold yBegin; rw [hq]; dsimp only; rw [if_neg (by rw [ho]; decide)]; first | done | rfl⟩, by show va_P (dC, dI) vwC _ t.heap; rw [ht]; exact hP⟩, hS.F ht⟩) hS.2.2 d_D_begin_27)
set_option maxHeartbeats 4000000 in
set_option maxRecDepth 100000 in
theorem m_D_read (l : Launch) (dC : Nat → ClassId) (dI : Nat → Nat → Nat) (k : Nat → ClassId) (b : Nat → Nat) (sz : Nat) (d : xDS) (tt kk : Int32) (htr : l.stackTraces = false) (hok : dOk d) : xt_Met l y_D_read w_D_read (rmx 9 5 30 147) (dPc dC dI k b sz d [.ref (b 0), .int tt, .int kk]) (xt_Q (fun v u => ∃ x, v = some (.long x) ∧ ((none, x), u) = yRead d tt kk) (fun X u => ((some X, 0), u) = yRead d tt kk) (dB dC dI k b) (va_A (dW k b d) sz)) 5 30 (va_A (dW k b d) sz) := by
  refine xt_ofW (cc := c_D_read) (maxL := 5) (ret := (some .long)) (by decide) rfl ?_
  intro p e s m args below meth c s₁ B hml hout hv
  obtain ⟨rfl, hsz, hP, hK, hD0, hTh⟩ := hv
  have hx := B.exec
  have hb := B.bytes
  have hr := B.returns
  have hts := atoms_spec (ws := w_D_read) B.pre
  have hB : ∀ w ∈ BIG, w.before _ s = true := fun w h => hts w (List.mem_cons_of_mem _ h)
  have hown : s.vm.findClass R_D = some m.cls := findClass_of_methodNamed B.named
  have hlocks := B.notSynchronized
  have hl := lv_entry ([.ref (b 0), .int tt, .int kk]) (n := 5) (Nat.le_of_ble_eq_true rfl)
  rw [lg_entry_eq]
  generalize (lg_sl ([.ref (b 0), .int tt, .int kk]) ++ List.replicate (5 - (lg_sl ([.ref (b 0), .int tt, .int kk])).length) Slot.unset).toArray = ls at hl ⊢
  have hl : lv_has ls 5 [(0, .ref (b 0)), (1, .int tt), (2, .int kk)] := hl
  subst hsz
  have hst := xs_world hP
  have hD := hD0.self (sz := s.heap.size)
  generalize hAe : va_A (dW k b d) s.heap.size = A at hD hst ⊢
  have hA : ∀ q : Nat, s.heap.size ≤ q → A q := fun q h => by rw [← hAe]; exact Or.inr h
  have hS : va_S A s.heap s.heap [] := va_S.rf
  have hDk := hD
  refine lv_aload_n hx hb d_D_read_0 rfl (lv_at hl 0 rfl) ?_
  refine lv_iload_n hx hb d_D_read_1 rfl (lv_at hl 1 rfl) ?_
  refine lv_iload_n hx hb d_D_read_2 rfl (lv_at hl 2 rfl) ?_
  have hFc := dW_all hD hS hA
  have hs0 := hS.1
  refine xt_cont (xt_runV (As := [.int tt, .int kk]) (rest := []) ⟨hx, hb, hml, hown, hB⟩ (m_D_openTransactionAt l dC dI k b _ d tt kk htr) (cwV 2 hB (BIG_V bw_158 bw_159 bw_2 bw_16 bw_160) rfl rfl rfl ⟨rfl, by decide, by decide, by decide +kernel⟩ ⟨Nat.le_of_ble_eq_true rfl, Nat.le_of_ble_eq_true rfl⟩) (dPc_pre _ hP hK hD hTh (xs_keep.of hS hst)) rfl rfl hl.1 rfl (lv_room (Nat.le_of_ble_eq_true rfl)) d_D_read_3 ⟨Nat.le_of_ble_eq_true rfl, Nat.le_of_ble_eq_true rfl⟩) hS (fun q _ h => hFc q h) hFc ?_ (fun X x8 u t H1 locs ht hvm hw hB1 hI hx1 hz1 hk1 hS => ?_)
  rotate_left
  · exact xt_thrW (Nat.le_of_ble_eq_true rfl) (Nat.le_of_ble_eq_true rfl) (xt_out hout (fun t2 ht2 hW2 => ⟨Or.inr ⟨X, x8, u, rfl, (by obtain ⟨h1 | ⟨j, h1, ⟨h2, h3⟩ | ⟨i, h2, h3, h5⟩⟩, h4⟩ := hw; exact (by rw [h1.2, h4]; unfold yRead; rw [h1.1]); exact (by rw [h3, h4]; unfold yRead; rw [h1]; dsimp only; rw [h2]); exact (by rw [h5, h4]; unfold yRead; rw [h1]; dsimp only; rw [h2]; dsimp only; rw [if_pos h3])), by show va_P (dC, dI) vwC _ t2.heap; rw [ht2, ← ht]; exact hB1, hI.mv (by rw [ht2, ht]) hvm hW2.alike, Nat.le_trans hs0 hx1⟩, hS.F ht2⟩) hS.2.2 hlocks)
  intro v8 u t H1 locs ht hvm hw hB1 hz1 hk1 hS
  obtain ⟨j, i, hq, hy, ho, rfl, hu⟩ := hw
  rw [hu] at hB1
  have hP : va_P (dC, dI) vwC (dW k b d) H1 := by rw [← ht]; exact hB1
  clear hFc hB1 hk1 hz1 ht hvm hs0
  generalize H1 = H at hP hS ⊢
  refine W.eq (g2 := F0 m 6 ls [.ref (yA b j 0)]) (rfl) ?_
  obtain ⟨hj, htj⟩ := ix_some (by decide) hq
  obtain ⟨hi, hti⟩ := ix_some (by decide) hy
  subst hti
  obtain ⟨hp1, hp5⟩ := hok j hj ho
  refine lv_astore_n hx hb d_D_read_6 rfl hl (by decide) rfl (fun ls hl => ?_)
  have hl : lv_has ls 5 [(3, .ref (yA b j 0)), (0, .ref (b 0)), (1, .int tt), (2, .int (nI i))] := hl
  refine lv_aload_n hx hb d_D_read_7 rfl (lv_at hl 0 rfl) ?_
  refine lv_iload_n hx hb d_D_read_8 rfl (lv_at hl 3 rfl) ?_
  refine vp_callSi (va_Run.run (va_runV (As := [.int (nI i)]) (rest := []) ⟨hx, hb, hml, hown, hB⟩ (m_T_lastPartWith l dC dI k (yA b j) (yT d j) i hi hp5) (cwV 1 hB (BIG_V bw_181 bw_182 bw_183 bw_17 bw_184) rfl rfl rfl ⟨rfl, by decide, by decide, by decide +kernel⟩ ⟨Nat.le_of_ble_eq_true rfl, Nat.le_of_ble_eq_true rfl⟩) (tRc_pre _ (dW_t hj hP) hK) rfl rfl hl.1 rfl (lv_room (Nat.le_of_ble_eq_true rfl)) d_D_read_9 ⟨Nat.le_of_ble_eq_true rfl, Nat.le_of_ble_eq_true rfl⟩)) (fun r7 hr7 => ?_)
  subst hr7
  cases hw7 : lastW (xW (yT d j)) i (xP (yT d j)) with
  | some p8 =>
    have hp8 := lastW_lt hw7
    refine W.eq (g2 := F0 m 12 ls [.int (nI p8)]) (rfl) ?_
    refine lv_istore hx hb d_D_read_12 hl (by decide) rfl (fun ls hl => ?_)
    have hl : lv_has ls 5 [(4, .int (nI p8)), (3, .ref (yA b j 0)), (0, .ref (b 0)), (1, .int tt), (2, .int (nI i))] := hl
    refine lv_iload hx hb d_D_read_14 (lv_at hl 0 rfl) ?_
    refine lv_if_lt hx hb d_D_read_16 rfl (fun h9 => absurd h9 (nI_pos (by omega))) (fun _ => ?_)
    refine lv_aload_n hx hb d_D_read_19 rfl (lv_at hl 1 rfl) ?_
    refine lv_iload hx hb d_D_read_20 (lv_at hl 0 rfl) ?_
    refine lv_iload_n hx hb d_D_read_22 rfl (lv_at hl 4 rfl) ?_
    refine vp_callSl (va_Run.run (va_runV (As := [.int (nI p8), .int (nI i)]) (rest := []) ⟨hx, hb, hml, hown, hB⟩ (m_T_writtenIn l dC dI k (yA b j) (yT d j) p8 i (by omega) hi) (cwV 2 hB (BIG_V bw_188 bw_189 bw_190 bw_17 bw_191) rfl rfl rfl ⟨rfl, by decide, by decide, by decide +kernel⟩ ⟨Nat.le_of_ble_eq_true rfl, Nat.le_of_ble_eq_true rfl⟩) (tRc_pre _ (dW_t hj hP) hK) rfl rfl hl.1 rfl (lv_room (Nat.le_of_ble_eq_true rfl)) d_D_read_23 ⟨Nat.le_of_ble_eq_true rfl, Nat.le_of_ble_eq_true rfl⟩)) (fun r7 hr7 => ?_)
    subst hr7
    exact xt_fin (Nat.le_of_ble_eq_true rfl) (Nat.le_of_ble_eq_true rfl) (W.lret (v := xV (yT d j) p8 i) hx hb hr (fun t ht hW => ⟨Or.inl ⟨some (.long (xV (yT d j) p8 i)), d, rfl, ⟨_, rfl, by unfold yRead; rw [hq]; dsimp only; rw [hy]; dsimp only; rw [if_neg (by rw [ho]; decide)]; rw [hw7]; first | done | rfl⟩, by show va_P (dC, dI) vwC _ t.heap; rw [ht]; exact hP⟩, hS.F ht⟩) hS.2.2 d_D_read_26)
  | none =>
    refine W.eq (g2 := F0 m 12 ls [.int (-1)]) (rfl) ?_
    refine lv_istore hx hb d_D_read_12 hl (by decide) rfl (fun ls hl => ?_)
    have hl : lv_has ls 5 [(4, .int (-1)), (3, .ref (yA b j 0)), (0, .ref (b 0)), (1, .int tt), (2, .int (nI i))] := hl
    refine lv_iload hx hb d_D_read_14 (lv_at hl 0 rfl) ?_
    refine lv_if_lt hx hb d_D_read_16 rfl (fun _ => ?_) (fun h9 => absurd (by decide) h9)
    refine lv_aload_n hx hb d_D_read_27 rfl (lv_at hl 1 rfl) ?_
    refine vp_callSi (va_Run.run (va_runV (As := []) (rest := []) ⟨hx, hb, hml, hown, hB⟩ (m_T_isStale l dC dI k (yA b j) (yT d j)) (cwV 0 hB (BIG_V bw_192 bw_193 bw_194 bw_17 bw_195) rfl rfl rfl ⟨rfl, by decide, by decide, by decide +kernel⟩ ⟨Nat.le_of_ble_eq_true rfl, Nat.le_of_ble_eq_true rfl⟩) (tRc_pre _ (dW_t hj hP) hK) rfl rfl hl.1 rfl (lv_room (Nat.le_of_ble_eq_true rfl)) d_D_read_28 ⟨Nat.le_of_ble_eq_true rfl, Nat.le_of_ble_eq_true rfl⟩)) (fun r7 hr7 => ?_)
    subst hr7
    cases hs : xS (yT d j) with
    | true =>
      refine lv_if_eq hx hb d_D_read_31 rfl (fun h9 => absurd h9 (by decide)) (fun _ => ?_)
      refine lv_aload_n hx hb d_D_read_34 rfl (lv_at hl 2 rfl) ?_
      refine lv_aload_n hx hb d_D_read_35 rfl (lv_at hl 1 rfl) ?_
      have hFc := dW_all hD hS hA
      refine va_callv (va_runV (As := [.ref (yA b j 0)]) (rest := []) ⟨hx, hb, hml, hown, hB⟩ (m_D_endStale l dC dI k b _ d j hj) (cwV 1 hB (BIG_V bw_196 bw_197 bw_5 bw_16 bw_198) rfl rfl rfl ⟨rfl, by decide, by decide, by decide +kernel⟩ ⟨Nat.le_of_ble_eq_true rfl, Nat.le_of_ble_eq_true rfl⟩) (dPc_pre _ hP hK hD hTh (xs_keep.of hS hst)) rfl rfl hl.1 rfl (lv_room (Nat.le_of_ble_eq_true rfl)) d_D_read_36 ⟨Nat.le_of_ble_eq_true rfl, Nat.le_of_ble_eq_true rfl⟩) hS (fun q _ h => hFc q h) hFc (fun u t H1 locs ht hvm hw hB1 hz1 hk1 hS => ?_)
      subst hw
      have hP : va_P (dC, dI) vwC (dW k b (yN d, yC d, va_up (yT d) j (tClose (yT d j)), yD d, (yS d + 1))) H1 := by rw [← ht]; exact hB1
      have hD : va_D A (dW k b (yN d, yC d, va_up (yT d) j (tClose (yT d j)), yD d, (yS d + 1))) := dW_D hDk
      clear hFc hB1 hk1 hz1 ht hvm
      generalize H1 = H at hP hS ⊢
      exact xt_thr (Nat.le_of_ble_eq_true rfl) (Nat.le_of_ble_eq_true rfl) (xs_throw (names := xN) (tx := "the transaction was stale") hx hb htr (hl.1.trans hml.symm) hlocks hown xL_all hTh (xs_keep.of hS hst) (by decide) (by decide) xL_U (by decide) d_D_read_39 d_D_read_42 d_D_read_43 d_D_read_45 d_D_read_48 hout (Nat.le_of_ble_eq_true rfl) (Nat.le_of_ble_eq_true rfl) (Nat.le_of_ble_eq_true rfl) (Nat.le_of_ble_eq_true rfl) (fun t hold hge hW hI => ⟨Or.inr ⟨qU, _, (yN d, yC d, va_up (yT d) j (tClose (yT d j)), yD d, (yS d + 1)), rfl, by unfold yRead; rw [hq]; dsimp only; rw [hy]; dsimp only; rw [if_neg (by rw [ho]; decide)]; rw [hw7]; dsimp only; rw [if_pos hs]; first | done | rfl, hP.kept (fun _ q hk => hold q.1 (hP _ q hk).lt), hI, hS.1⟩, Nat.le_trans hS.1 hge, fun q h1 h2 => (hold q (Nat.lt_of_lt_of_le h1 hS.1)).trans (hS.2.1 q h1 h2)⟩) hS.2.2)
    | false =>
      refine lv_if_eq hx hb d_D_read_31 rfl (fun _ => ?_) (fun h9 => absurd (by decide) h9)
      refine lv_aload_n hx hb d_D_read_49 rfl (lv_at hl 1 rfl) ?_
      refine lv_iload_n hx hb d_D_read_50 rfl (lv_at hl 4 rfl) ?_
      have hFc := dW_free hj hD hS hA
      refine va_callv (va_runV (As := [.int (nI i)]) (rest := []) ⟨hx, hb, hml, hown, hB⟩ (m_T_markRead l dC dI k (yA b j) _ (yT d j) i) (cwV 1 hB (BIG_V bw_217 bw_218 bw_219 bw_17 bw_220) rfl rfl rfl ⟨rfl, by decide, by decide, by decide +kernel⟩ ⟨Nat.le_of_ble_eq_true rfl, Nat.le_of_ble_eq_true rfl⟩) (tPc_pre _ (dW_t hj hP) hK (dW_tD hj hD)) rfl rfl hl.1 rfl (lv_room (Nat.le_of_ble_eq_true rfl)) d_D_read_51 ⟨Nat.le_of_ble_eq_true rfl, Nat.le_of_ble_eq_true rfl⟩) hS (fun q _ h => hFc q h) hFc (fun u t H1 locs ht hvm hw hB1 hz1 hk1 hS => ?_)
      subst hw
      have hP : va_P (dC, dI) vwC (dW k b (yN d, yC d, va_up (yT d) j (tMark (yT d j) i), yD d, yS d)) H1 := by rw [← ht] at hk1 ⊢; exact dW_join hj hP hD hB1 hk1
      have hD : va_D A (dW k b (yN d, yC d, va_up (yT d) j (tMark (yT d j) i), yD d, yS d)) := dW_D hDk
      clear hFc hB1 hk1 hz1 ht hvm
      generalize H1 = H at hP hS ⊢
      refine lv_aload_n hx hb d_D_read_54 rfl (lv_at hl 2 rfl) ?_
      refine va_get (D := (dC, dI)) (ci := 1) (v := .ref (b 1)) (C := R_D) (T := F_D) (N := 5) hx hb hB in_D hown hK hP 0 rfl rfl 0 (by decide) (hB _ bw_56) (fun _ h9 => h9) rfl d_D_read_55 ?_
      refine lv_iload_n hx hb d_D_read_58 rfl (lv_at hl 4 rfl) ?_
      refine va_lald hx hb hK hP 1 1 rfl rfl (pk_in i 32 (by omega)) d_D_read_59 ?_
      refine W.eq (g2 := F0 m 60 ls [.long (yN d i)]) (by rw [cl_nI (by omega)]) ?_
      exact xt_fin (Nat.le_of_ble_eq_true rfl) (Nat.le_of_ble_eq_true rfl) (W.lret (v := yN d i) hx hb hr (fun t ht hW => ⟨Or.inl ⟨some (.long (yN d i)), (yN d, yC d, va_up (yT d) j (tMark (yT d j) i), yD d, yS d), rfl, ⟨_, rfl, by unfold yRead; rw [hq]; dsimp only; rw [hy]; dsimp only; rw [if_neg (by rw [ho]; decide)]; rw [hw7]; dsimp only; rw [if_neg (by rw [hs]; decide)]; first | done | rfl⟩, by show va_P (dC, dI) vwC _ t.heap; rw [ht]; exact hP⟩, hS.F ht⟩) hS.2.2 d_D_read_60)
set_option maxHeartbeats 4000000 in
set_option maxRecDepth 100000 in
theorem m_D_write (l : Launch) (dC : Nat → ClassId) (dI : Nat → Nat → Nat) (k : Nat → ClassId) (b : Nat → Nat) (sz : Nat) (d : xDS) (tt kk : Int32) (x : Int64) (htr : l.stackTraces = false) (hok : dOk d) : xt_Met l y_D_write w_D_write (rmx 9 4 24 147) (dPc dC dI k b sz d [.ref (b 0), .int tt, .int kk, .long x]) (xt_Q (fun v u => v = none ∧ (none, u) = yWrite d tt kk x) (fun X u => (some X, u) = yWrite d tt kk x) (dB dC dI k b) (va_A (dW k b d) sz)) 4 24 (va_A (dW k b d) sz) := by
  refine xt_ofW (cc := c_D_write) (maxL := 5) (ret := none) (by decide) rfl ?_
  intro p e s m args below meth c s₁ B hml hout hv
  obtain ⟨rfl, hsz, hP, hK, hD0, hTh⟩ := hv
  have hx := B.exec
  have hb := B.bytes
  have hr := B.returns
  have hts := atoms_spec (ws := w_D_write) B.pre
  have hB : ∀ w ∈ BIG, w.before _ s = true := fun w h => hts w (List.mem_cons_of_mem _ h)
  have hown : s.vm.findClass R_D = some m.cls := findClass_of_methodNamed B.named
  have hlocks := B.notSynchronized
  have hl := lv_entry ([.ref (b 0), .int tt, .int kk, .long x]) (n := 5) (Nat.le_of_ble_eq_true rfl)
  rw [lg_entry_eq]
  generalize (lg_sl ([.ref (b 0), .int tt, .int kk, .long x]) ++ List.replicate (5 - (lg_sl ([.ref (b 0), .int tt, .int kk, .long x])).length) Slot.unset).toArray = ls at hl ⊢
  have hl : lv_has ls 5 [(0, .ref (b 0)), (1, .int tt), (2, .int kk), (3, .long x)] := hl
  subst hsz
  have hst := xs_world hP
  have hD := hD0.self (sz := s.heap.size)
  generalize hAe : va_A (dW k b d) s.heap.size = A at hD hst ⊢
  have hA : ∀ q : Nat, s.heap.size ≤ q → A q := fun q h => by rw [← hAe]; exact Or.inr h
  have hS : va_S A s.heap s.heap [] := va_S.rf
  have hDk := hD
  refine lv_aload_n hx hb d_D_write_0 rfl (lv_at hl 0 rfl) ?_
  refine lv_iload_n hx hb d_D_write_1 rfl (lv_at hl 1 rfl) ?_
  refine lv_iload_n hx hb d_D_write_2 rfl (lv_at hl 2 rfl) ?_
  have hFc := dW_all hD hS hA
  have hs0 := hS.1
  refine xt_cont (xt_runV (As := [.int tt, .int kk]) (rest := []) ⟨hx, hb, hml, hown, hB⟩ (m_D_openTransactionAt l dC dI k b _ d tt kk htr) (cwV 2 hB (BIG_V bw_158 bw_159 bw_2 bw_16 bw_160) rfl rfl rfl ⟨rfl, by decide, by decide, by decide +kernel⟩ ⟨Nat.le_of_ble_eq_true rfl, Nat.le_of_ble_eq_true rfl⟩) (dPc_pre _ hP hK hD hTh (xs_keep.of hS hst)) rfl rfl hl.1 rfl (lv_room (Nat.le_of_ble_eq_true rfl)) d_D_write_3 ⟨Nat.le_of_ble_eq_true rfl, Nat.le_of_ble_eq_true rfl⟩) hS (fun q _ h => hFc q h) hFc ?_ (fun X x8 u t H1 locs ht hvm hw hB1 hI hx1 hz1 hk1 hS => ?_)
  rotate_left
  · exact xt_thrW (Nat.le_of_ble_eq_true rfl) (Nat.le_of_ble_eq_true rfl) (xt_out hout (fun t2 ht2 hW2 => ⟨Or.inr ⟨X, x8, u, rfl, (by obtain ⟨h1 | ⟨j, h1, ⟨h2, h3⟩ | ⟨i, h2, h3, h5⟩⟩, h4⟩ := hw; exact (by rw [h1.2, h4]; unfold yWrite; rw [h1.1]); exact (by rw [h3, h4]; unfold yWrite; rw [h1]; dsimp only; rw [h2]); exact (by rw [h5, h4]; unfold yWrite; rw [h1]; dsimp only; rw [h2]; dsimp only; rw [if_pos h3])), by show va_P (dC, dI) vwC _ t2.heap; rw [ht2, ← ht]; exact hB1, hI.mv (by rw [ht2, ht]) hvm hW2.alike, Nat.le_trans hs0 hx1⟩, hS.F ht2⟩) hS.2.2 hlocks)
  intro v8 u t H1 locs ht hvm hw hB1 hz1 hk1 hS
  obtain ⟨j, i, hq, hy, ho, rfl, hu⟩ := hw
  rw [hu] at hB1
  have hP : va_P (dC, dI) vwC (dW k b d) H1 := by rw [← ht]; exact hB1
  clear hFc hB1 hk1 hz1 ht hvm hs0
  generalize H1 = H at hP hS ⊢
  refine W.eq (g2 := F0 m 6 ls [.ref (yA b j 0)]) (rfl) ?_
  obtain ⟨hj, htj⟩ := ix_some (by decide) hq
  obtain ⟨hi, hti⟩ := ix_some (by decide) hy
  subst hti
  obtain ⟨hp1, hp5⟩ := hok j hj ho
  refine lv_iload_n hx hb d_D_write_6 rfl (lv_at hl 2 rfl) ?_
  refine lv_lload_n hx hb d_D_write_7 rfl (lv_at hl 3 rfl) ?_
  have hFc := dW_free hj hD hS hA
  refine va_callv (va_runV (As := [.int (nI i), .long x]) (rest := []) ⟨hx, hb, hml, hown, hB⟩ (m_T_putInLastPart l dC dI k (yA b j) _ (yT d j) i x hi hp1 hp5) (cwV 2 hB (BIG_V bw_228 bw_229 bw_230 bw_17 bw_231) rfl rfl rfl ⟨rfl, by decide, by decide, by decide +kernel⟩ ⟨Nat.le_of_ble_eq_true rfl, Nat.le_of_ble_eq_true rfl⟩) (tPc_pre _ (dW_t hj hP) hK (dW_tD hj hD)) rfl rfl hl.1 rfl (lv_room (Nat.le_of_ble_eq_true rfl)) d_D_write_8 ⟨Nat.le_of_ble_eq_true rfl, Nat.le_of_ble_eq_true rfl⟩) hS (fun q _ h => hFc q h) hFc (fun u t H1 locs ht hvm hw hB1 hz1 hk1 hS => ?_)
  subst hw
  have hP : va_P (dC, dI) vwC (dW k b (yN d, yC d, va_up (yT d) j (tPut (yT d j) (xP (yT d j) - 1) i x), yD d, yS d)) H1 := by rw [← ht] at hk1 ⊢; exact dW_join hj hP hD hB1 hk1
  have hD : va_D A (dW k b (yN d, yC d, va_up (yT d) j (tPut (yT d j) (xP (yT d j) - 1) i x), yD d, yS d)) := dW_D hDk
  clear hFc hB1 hk1 hz1 ht hvm
  generalize H1 = H at hP hS ⊢
  exact xt_fin (Nat.le_of_ble_eq_true rfl) (Nat.le_of_ble_eq_true rfl) (W.vret hx hb hr (fun t ht hW => ⟨Or.inl ⟨none, (yN d, yC d, va_up (yT d) j (tPut (yT d j) (xP (yT d j) - 1) i x), yD d, yS d), rfl, ⟨rfl, by unfold yWrite; rw [hq]; dsimp only; rw [hy]; dsimp only; rw [if_neg (by rw [ho]; decide)]; first | done | rfl⟩, by show va_P (dC, dI) vwC _ t.heap; rw [ht]; exact hP⟩, hS.F ht⟩) hS.2.2 d_D_write_11)
set_option maxHeartbeats 4000000 in
set_option maxRecDepth 100000 in
theorem m_D_save (l : Launch) (dC : Nat → ClassId) (dI : Nat → Nat → Nat) (k : Nat → ClassId) (b : Nat → Nat) (sz : Nat) (d : xDS) (tt : Int32) (htr : l.stackTraces = false) (hok : dOk d) : xt_Met l y_D_save w_D_save (rmx 8 3 18 125) (dPc dC dI k b sz d [.ref (b 0), .int tt]) (xt_Q (fun v u => ∃ x, v = some (.int x) ∧ ((none, x), u) = ySave d tt) (fun X u => ((some X, 0), u) = ySave d tt) (dB dC dI k b) (va_A (dW k b d) sz)) 3 18 (va_A (dW k b d) sz) := by
  refine xt_ofW (cc := c_D_save) (maxL := 3) (ret := (some .int)) (by decide) rfl ?_
  intro p e s m args below meth c s₁ B hml hout hv
  obtain ⟨rfl, hsz, hP, hK, hD0, hTh⟩ := hv
  have hx := B.exec
  have hb := B.bytes
  have hr := B.returns
  have hts := atoms_spec (ws := w_D_save) B.pre
  have hB : ∀ w ∈ BIG, w.before _ s = true := fun w h => hts w (List.mem_cons_of_mem _ h)
  have hown : s.vm.findClass R_D = some m.cls := findClass_of_methodNamed B.named
  have hlocks := B.notSynchronized
  have hl := lv_entry ([.ref (b 0), .int tt]) (n := 3) (Nat.le_of_ble_eq_true rfl)
  rw [lg_entry_eq]
  generalize (lg_sl ([.ref (b 0), .int tt]) ++ List.replicate (3 - (lg_sl ([.ref (b 0), .int tt])).length) Slot.unset).toArray = ls at hl ⊢
  have hl : lv_has ls 3 [(0, .ref (b 0)), (1, .int tt)] := hl
  subst hsz
  have hst := xs_world hP
  have hD := hD0.self (sz := s.heap.size)
  generalize hAe : va_A (dW k b d) s.heap.size = A at hD hst ⊢
  have hA : ∀ q : Nat, s.heap.size ≤ q → A q := fun q h => by rw [← hAe]; exact Or.inr h
  have hS : va_S A s.heap s.heap [] := va_S.rf
  have hDk := hD
  refine lv_aload_n hx hb d_D_save_0 rfl (lv_at hl 0 rfl) ?_
  refine lv_iload_n hx hb d_D_save_1 rfl (lv_at hl 1 rfl) ?_
  have hFc := dW_all hD hS hA
  have hs0 := hS.1
  refine xt_cont (xt_runV (As := [.int tt]) (rest := []) ⟨hx, hb, hml, hown, hB⟩ (m_D_openTransactionOf l dC dI k b _ d tt htr) (cwV 1 hB (BIG_V bw_178 bw_179 bw_4 bw_16 bw_180) rfl rfl rfl ⟨rfl, by decide, by decide, by decide +kernel⟩ ⟨Nat.le_of_ble_eq_true rfl, Nat.le_of_ble_eq_true rfl⟩) (dPc_pre _ hP hK hD hTh (xs_keep.of hS hst)) rfl rfl hl.1 rfl (lv_room (Nat.le_of_ble_eq_true rfl)) d_D_save_2 ⟨Nat.le_of_ble_eq_true rfl, Nat.le_of_ble_eq_true rfl⟩) hS (fun q _ h => hFc q h) hFc ?_ (fun X x8 u t H1 locs ht hvm hw hB1 hI hx1 hz1 hk1 hS => ?_)
  rotate_left
  · exact xt_thrW (Nat.le_of_ble_eq_true rfl) (Nat.le_of_ble_eq_true rfl) (xt_out hout (fun t2 ht2 hW2 => ⟨Or.inr ⟨X, x8, u, rfl, (by obtain ⟨h1 | ⟨j, h1, h2, h3⟩, h4⟩ := hw; exact (by rw [h1.2, h4]; unfold ySave; rw [h1.1]); exact (by rw [h3, h4]; unfold ySave; rw [h1]; dsimp only; rw [if_pos h2])), by show va_P (dC, dI) vwC _ t2.heap; rw [ht2, ← ht]; exact hB1, hI.mv (by rw [ht2, ht]) hvm hW2.alike, Nat.le_trans hs0 hx1⟩, hS.F ht2⟩) hS.2.2 hlocks)
  intro v8 u t H1 locs ht hvm hw hB1 hz1 hk1 hS
  obtain ⟨j, hq, ho, rfl, hu⟩ := hw
  rw [hu] at hB1
  have hP : va_P (dC, dI) vwC (dW k b d) H1 := by rw [← ht]; exact hB1
  clear hFc hB1 hk1 hz1 ht hvm hs0
  generalize H1 = H at hP hS ⊢
  refine W.eq (g2 := F0 m 5 ls [.ref (yA b j 0)]) (rfl) ?_
  obtain ⟨hj, htj⟩ := ix_some (by decide) hq
  obtain ⟨hp1, hp5⟩ := hok j hj ho
  refine lv_astore_n hx hb d_D_save_5 rfl hl (by decide) rfl (fun ls hl => ?_)
  have hl : lv_has ls 3 [(2, .ref (yA b j 0)), (0, .ref (b 0)), (1, .int tt)] := hl
  refine lv_aload_n hx hb d_D_save_6 rfl (lv_at hl 0 rfl) ?_
  refine vp_callSi (va_Run.run (va_runV (As := []) (rest := []) ⟨hx, hb, hml, hown, hB⟩ (m_T_partCount l dC dI k (yA b j) (yT d j)) (cwV 0 hB (BIG_V bw_242 bw_243 bw_244 bw_17 bw_245) rfl rfl rfl ⟨rfl, by decide, by decide, by decide +kernel⟩ ⟨Nat.le_of_ble_eq_true rfl, Nat.le_of_ble_eq_true rfl⟩) (tRc_pre _ (dW_t hj hP) hK) rfl rfl hl.1 rfl (lv_room (Nat.le_of_ble_eq_true rfl)) d_D_save_7 ⟨Nat.le_of_ble_eq_true rfl, Nat.le_of_ble_eq_true rfl⟩)) (fun r7 hr7 => ?_)
  subst hr7
  refine lv_iconst (v := nI 5) hx hb d_D_save_10 (by decide) ?_
  refine lv_icmp_lt hx hb d_D_save_11 rfl (fun h9 => ?_) (fun h9 => ?_)
  · have h8 : xP (yT d j) < 5 := Nat.lt_of_not_le (fun q => absurd h9 (nI_nlt q (by omega)))
    refine lv_aload_n hx hb d_D_save_24 rfl (lv_at hl 0 rfl) ?_
    have hFc := dW_free hj hD hS hA
    refine va_callv (va_runV (As := []) (rest := []) ⟨hx, hb, hml, hown, hB⟩ (m_T_addPart l dC dI k (yA b j) _ (yT d j) h8) (cwV 0 hB (BIG_V bw_246 bw_247 bw_248 bw_17 bw_249) rfl rfl rfl ⟨rfl, by decide, by decide, by decide +kernel⟩ ⟨Nat.le_of_ble_eq_true rfl, Nat.le_of_ble_eq_true rfl⟩) (tPc_pre _ (dW_t hj hP) hK (dW_tD hj hD)) rfl rfl hl.1 rfl (lv_room (Nat.le_of_ble_eq_true rfl)) d_D_save_25 ⟨Nat.le_of_ble_eq_true rfl, Nat.le_of_ble_eq_true rfl⟩) hS (fun q _ h => hFc q h) hFc (fun u t H1 locs ht hvm hw hB1 hz1 hk1 hS => ?_)
    subst hw
    have hP : va_P (dC, dI) vwC (dW k b (yN d, yC d, va_up (yT d) j (tAdd (yT d j)), yD d, yS d)) H1 := by rw [← ht] at hk1 ⊢; exact dW_join hj hP hD hB1 hk1
    have hD : va_D A (dW k b (yN d, yC d, va_up (yT d) j (tAdd (yT d j)), yD d, yS d)) := dW_D hDk
    clear hFc hB1 hk1 hz1 ht hvm
    generalize H1 = H at hP hS ⊢
    refine lv_aload_n hx hb d_D_save_28 rfl (lv_at hl 0 rfl) ?_
    refine vp_callSi (va_Run.run (va_runV (As := []) (rest := []) ⟨hx, hb, hml, hown, hB⟩ (m_T_partCount l dC dI k (yA b j) (yT (yN d, yC d, va_up (yT d) j (tAdd (yT d j)), yD d, yS d) j)) (cwV 0 hB (BIG_V bw_242 bw_243 bw_244 bw_17 bw_245) rfl rfl rfl ⟨rfl, by decide, by decide, by decide +kernel⟩ ⟨Nat.le_of_ble_eq_true rfl, Nat.le_of_ble_eq_true rfl⟩) (tRc_pre _ (dW_t hj hP) hK) rfl rfl hl.1 rfl (lv_room (Nat.le_of_ble_eq_true rfl)) d_D_save_29 ⟨Nat.le_of_ble_eq_true rfl, Nat.le_of_ble_eq_true rfl⟩)) (fun r7 hr7 => ?_)
    have hup : va_up (yT d) j (tAdd (yT d j)) j = tAdd (yT d j) := va_up_self _ _ _
    refine W.eq (g2 := F0 m 32 ls [.int (nI (xP (yT d j) + 1))]) (by rw [hr7]; show F0 _ _ _ [Value.int (nI (xP (va_up (yT d) j (tAdd (yT d j)) j)))] = _; rw [hup]; first | done | rfl) ?_
    exact xt_fin (Nat.le_of_ble_eq_true rfl) (Nat.le_of_ble_eq_true rfl) (W.iret (v := nI (xP (yT d j) + 1)) hx hb hr (fun t ht hW => ⟨Or.inl ⟨some (.int (nI (xP (yT d j) + 1))), (yN d, yC d, va_up (yT d) j (tAdd (yT d j)), yD d, yS d), rfl, ⟨_, rfl, by unfold ySave; rw [hq]; dsimp only; rw [if_neg (by rw [ho]; decide)]; rw [if_neg (by omega)]; first | done | rfl⟩, by show va_P (dC, dI) vwC _ t.heap; rw [ht]; exact hP⟩, hS.F ht⟩) hS.2.2 d_D_save_32)
  · have h8 : 5 ≤ xP (yT d j) := Nat.le_of_not_lt (fun q => h9 (nI_lt q (by omega)))
    exact xt_thr (Nat.le_of_ble_eq_true rfl) (Nat.le_of_ble_eq_true rfl) (xs_throw (names := xN) (tx := "no further part") hx hb htr (hl.1.trans hml.symm) hlocks hown xL_all hTh (xs_keep.of hS hst) (by decide) (by decide) xL_U (by decide) d_D_save_14 d_D_save_17 d_D_save_18 d_D_save_20 d_D_save_23 hout (Nat.le_of_ble_eq_true rfl) (Nat.le_of_ble_eq_true rfl) (Nat.le_of_ble_eq_true rfl) (Nat.le_of_ble_eq_true rfl) (fun t hold hge hW hI => ⟨Or.inr ⟨qU, _, d, rfl, by unfold ySave; rw [hq]; dsimp only; rw [if_neg (by rw [ho]; decide)]; rw [if_pos h8]; first | done | rfl, hP.kept (fun _ q hk => hold q.1 (hP _ q hk).lt), hI, hS.1⟩, Nat.le_trans hS.1 hge, fun q h1 h2 => (hold q (Nat.lt_of_lt_of_le h1 hS.1)).trans (hS.2.1 q h1 h2)⟩) hS.2.2)
set_option maxHeartbeats 4000000 in
set_option maxRecDepth 100000 in
theorem m_D_back (l : Launch) (dC : Nat → ClassId) (dI : Nat → Nat → Nat) (k : Nat → ClassId) (b : Nat → Nat) (sz : Nat) (d : xDS) (tt : Int32) (htr : l.stackTraces = false) (hok : dOk d) : xt_Met l y_D_back w_D_back (rmx 9 3 18 147) (dPc dC dI k b sz d [.ref (b 0), .int tt]) (xt_Q (fun v u => v = none ∧ (none, u) = yBack d tt) (fun X u => (some X, u) = yBack d tt) (dB dC dI k b) (va_A (dW k b d) sz)) 3 18 (va_A (dW k b d) sz) := by
  refine xt_ofW (cc := c_D_back) (maxL := 2) (ret := none) (by decide) rfl ?_
  intro p e s m args below meth c s₁ B hml hout hv
  obtain ⟨rfl, hsz, hP, hK, hD0, hTh⟩ := hv
  have hx := B.exec
  have hb := B.bytes
  have hr := B.returns
  have hts := atoms_spec (ws := w_D_back) B.pre
  have hB : ∀ w ∈ BIG, w.before _ s = true := fun w h => hts w (List.mem_cons_of_mem _ h)
  have hown : s.vm.findClass R_D = some m.cls := findClass_of_methodNamed B.named
  have hlocks := B.notSynchronized
  have hl := lv_entry ([.ref (b 0), .int tt]) (n := 2) (Nat.le_of_ble_eq_true rfl)
  rw [lg_entry_eq]
  generalize (lg_sl ([.ref (b 0), .int tt]) ++ List.replicate (2 - (lg_sl ([.ref (b 0), .int tt])).length) Slot.unset).toArray = ls at hl ⊢
  have hl : lv_has ls 2 [(0, .ref (b 0)), (1, .int tt)] := hl
  subst hsz
  have hst := xs_world hP
  have hD := hD0.self (sz := s.heap.size)
  generalize hAe : va_A (dW k b d) s.heap.size = A at hD hst ⊢
  have hA : ∀ q : Nat, s.heap.size ≤ q → A q := fun q h => by rw [← hAe]; exact Or.inr h
  have hS : va_S A s.heap s.heap [] := va_S.rf
  have hDk := hD
  refine lv_aload_n hx hb d_D_back_0 rfl (lv_at hl 0 rfl) ?_
  refine lv_iload_n hx hb d_D_back_1 rfl (lv_at hl 1 rfl) ?_
  have hFc := dW_all hD hS hA
  have hs0 := hS.1
  refine xt_cont (xt_runV (As := [.int tt]) (rest := []) ⟨hx, hb, hml, hown, hB⟩ (m_D_transactionWithSeveralParts l dC dI k b _ d tt htr hok) (cwV 1 hB (BIG_V bw_257 bw_258 bw_7 bw_16 bw_259) rfl rfl rfl ⟨rfl, by decide, by decide, by decide +kernel⟩ ⟨Nat.le_of_ble_eq_true rfl, Nat.le_of_ble_eq_true rfl⟩) (dPc_pre _ hP hK hD hTh (xs_keep.of hS hst)) rfl rfl hl.1 rfl (lv_room (Nat.le_of_ble_eq_true rfl)) d_D_back_2 ⟨Nat.le_of_ble_eq_true rfl, Nat.le_of_ble_eq_true rfl⟩) hS (fun q _ h => hFc q h) hFc ?_ (fun X x8 u t H1 locs ht hvm hw hB1 hI hx1 hz1 hk1 hS => ?_)
  rotate_left
  · exact xt_thrW (Nat.le_of_ble_eq_true rfl) (Nat.le_of_ble_eq_true rfl) (xt_out hout (fun t2 ht2 hW2 => ⟨Or.inr ⟨X, x8, u, rfl, (by obtain ⟨h1 | ⟨j, h1, ⟨h2, h3⟩ | ⟨h2, h3, h5⟩⟩, h4⟩ := hw; exact (by rw [h1.2, h4]; unfold yBack; rw [h1.1]); exact (by rw [h3, h4]; unfold yBack; rw [h1]; dsimp only; rw [if_pos h2]); exact (by rw [h5, h4]; unfold yBack; rw [h1]; dsimp only; rw [if_neg (by rw [h2]; decide)]; rw [if_pos h3])), by show va_P (dC, dI) vwC _ t2.heap; rw [ht2, ← ht]; exact hB1, hI.mv (by rw [ht2, ht]) hvm hW2.alike, Nat.le_trans hs0 hx1⟩, hS.F ht2⟩) hS.2.2 hlocks)
  intro v8 u t H1 locs ht hvm hw hB1 hz1 hk1 hS
  obtain ⟨j, hq, ho, h8, rfl, hu⟩ := hw
  rw [hu] at hB1
  have hP : va_P (dC, dI) vwC (dW k b d) H1 := by rw [← ht]; exact hB1
  clear hFc hB1 hk1 hz1 ht hvm hs0
  generalize H1 = H at hP hS ⊢
  refine W.eq (g2 := F0 m 5 ls [.ref (yA b j 0)]) (rfl) ?_
  obtain ⟨hj, htj⟩ := ix_some (by decide) hq
  obtain ⟨hp1, hp5⟩ := hok j hj ho
  have hFc := dW_free hj hD hS hA
  refine va_callv (va_runV (As := []) (rest := []) ⟨hx, hb, hml, hown, hB⟩ (m_T_dropLastPart l dC dI k (yA b j) _ (yT d j) hp1) (cwV 0 hB (BIG_V bw_260 bw_261 bw_262 bw_17 bw_263) rfl rfl rfl ⟨rfl, by decide, by decide, by decide +kernel⟩ ⟨Nat.le_of_ble_eq_true rfl, Nat.le_of_ble_eq_true rfl⟩) (tPc_pre _ (dW_t hj hP) hK (dW_tD hj hD)) rfl rfl hl.1 rfl (lv_room (Nat.le_of_ble_eq_true rfl)) d_D_back_5 ⟨Nat.le_of_ble_eq_true rfl, Nat.le_of_ble_eq_true rfl⟩) hS (fun q _ h => hFc q h) hFc (fun u t H1 locs ht hvm hw hB1 hz1 hk1 hS => ?_)
  subst hw
  have hP : va_P (dC, dI) vwC (dW k b (yN d, yC d, va_up (yT d) j (tDrop (yT d j)), yD d, yS d)) H1 := by rw [← ht] at hk1 ⊢; exact dW_join hj hP hD hB1 hk1
  have hD : va_D A (dW k b (yN d, yC d, va_up (yT d) j (tDrop (yT d j)), yD d, yS d)) := dW_D hDk
  clear hFc hB1 hk1 hz1 ht hvm
  generalize H1 = H at hP hS ⊢
  exact xt_fin (Nat.le_of_ble_eq_true rfl) (Nat.le_of_ble_eq_true rfl) (W.vret hx hb hr (fun t ht hW => ⟨Or.inl ⟨none, (yN d, yC d, va_up (yT d) j (tDrop (yT d j)), yD d, yS d), rfl, ⟨rfl, by unfold yBack; rw [hq]; dsimp only; rw [if_neg (by rw [ho]; decide)]; rw [if_neg h8]; first | done | rfl⟩, by show va_P (dC, dI) vwC _ t.heap; rw [ht]; exact hP⟩, hS.F ht⟩) hS.2.2 d_D_back_8)
set_option maxHeartbeats 4000000 in
set_option maxRecDepth 100000 in
theorem m_D_keep (l : Launch) (dC : Nat → ClassId) (dI : Nat → Nat → Nat) (k : Nat → ClassId) (b : Nat → Nat) (sz : Nat) (d : xDS) (tt : Int32) (htr : l.stackTraces = false) (hok : dOk d) : xt_Met l y_D_keep w_D_keep (rmx 9 3 18 147) (dPc dC dI k b sz d [.ref (b 0), .int tt]) (xt_Q (fun v u => v = none ∧ (none, u) = yKeep d tt) (fun X u => (some X, u) = yKeep d tt) (dB dC dI k b) (va_A (dW k b d) sz)) 3 18 (va_A (dW k b d) sz) := by
  refine xt_ofW (cc := c_D_keep) (maxL := 2) (ret := none) (by decide) rfl ?_
  intro p e s m args below meth c s₁ B hml hout hv
  obtain ⟨rfl, hsz, hP, hK, hD0, hTh⟩ := hv
  have hx := B.exec
  have hb := B.bytes
  have hr := B.returns
  have hts := atoms_spec (ws := w_D_keep) B.pre
  have hB : ∀ w ∈ BIG, w.before _ s = true := fun w h => hts w (List.mem_cons_of_mem _ h)
  have hown : s.vm.findClass R_D = some m.cls := findClass_of_methodNamed B.named
  have hlocks := B.notSynchronized
  have hl := lv_entry ([.ref (b 0), .int tt]) (n := 2) (Nat.le_of_ble_eq_true rfl)
  rw [lg_entry_eq]
  generalize (lg_sl ([.ref (b 0), .int tt]) ++ List.replicate (2 - (lg_sl ([.ref (b 0), .int tt])).length) Slot.unset).toArray = ls at hl ⊢
  have hl : lv_has ls 2 [(0, .ref (b 0)), (1, .int tt)] := hl
  subst hsz
  have hst := xs_world hP
  have hD := hD0.self (sz := s.heap.size)
  generalize hAe : va_A (dW k b d) s.heap.size = A at hD hst ⊢
  have hA : ∀ q : Nat, s.heap.size ≤ q → A q := fun q h => by rw [← hAe]; exact Or.inr h
  have hS : va_S A s.heap s.heap [] := va_S.rf
  have hDk := hD
  refine lv_aload_n hx hb d_D_keep_0 rfl (lv_at hl 0 rfl) ?_
  refine lv_iload_n hx hb d_D_keep_1 rfl (lv_at hl 1 rfl) ?_
  have hFc := dW_all hD hS hA
  have hs0 := hS.1
  refine xt_cont (xt_runV (As := [.int tt]) (rest := []) ⟨hx, hb, hml, hown, hB⟩ (m_D_transactionWithSeveralParts l dC dI k b _ d tt htr hok) (cwV 1 hB (BIG_V bw_257 bw_258 bw_7 bw_16 bw_259) rfl rfl rfl ⟨rfl, by decide, by decide, by decide +kernel⟩ ⟨Nat.le_of_ble_eq_true rfl, Nat.le_of_ble_eq_true rfl⟩) (dPc_pre _ hP hK hD hTh (xs_keep.of hS hst)) rfl rfl hl.1 rfl (lv_room (Nat.le_of_ble_eq_true rfl)) d_D_keep_2 ⟨Nat.le_of_ble_eq_true rfl, Nat.le_of_ble_eq_true rfl⟩) hS (fun q _ h => hFc q h) hFc ?_ (fun X x8 u t H1 locs ht hvm hw hB1 hI hx1 hz1 hk1 hS => ?_)
  rotate_left
  · exact xt_thrW (Nat.le_of_ble_eq_true rfl) (Nat.le_of_ble_eq_true rfl) (xt_out hout (fun t2 ht2 hW2 => ⟨Or.inr ⟨X, x8, u, rfl, (by obtain ⟨h1 | ⟨j, h1, ⟨h2, h3⟩ | ⟨h2, h3, h5⟩⟩, h4⟩ := hw; exact (by rw [h1.2, h4]; unfold yKeep; rw [h1.1]); exact (by rw [h3, h4]; unfold yKeep; rw [h1]; dsimp only; rw [if_pos h2]); exact (by rw [h5, h4]; unfold yKeep; rw [h1]; dsimp only; rw [if_neg (by rw [h2]; decide)]; rw [if_pos h3])), by show va_P (dC, dI) vwC _ t2.heap; rw [ht2, ← ht]; exact hB1, hI.mv (by rw [ht2, ht]) hvm hW2.alike, Nat.le_trans hs0 hx1⟩, hS.F ht2⟩) hS.2.2 hlocks)
  intro v8 u t H1 locs ht hvm hw hB1 hz1 hk1 hS
  obtain ⟨j, hq, ho, h8, rfl, hu⟩ := hw
  rw [hu] at hB1
  have hP : va_P (dC, dI) vwC (dW k b d) H1 := by rw [← ht]; exact hB1
  clear hFc hB1 hk1 hz1 ht hvm hs0
  generalize H1 = H at hP hS ⊢
  refine W.eq (g2 := F0 m 5 ls [.ref (yA b j 0)]) (rfl) ?_
  obtain ⟨hj, htj⟩ := ix_some (by decide) hq
  obtain ⟨hp1, hp5⟩ := hok j hj ho
  have hFc := dW_free hj hD hS hA
  refine va_callv (va_runV (As := []) (rest := []) ⟨hx, hb, hml, hown, hB⟩ (m_T_mergeLastPart l dC dI k (yA b j) _ (yT d j) (by omega) hp5) (cwV 0 hB (BIG_V bw_271 bw_272 bw_273 bw_17 bw_274) rfl rfl rfl ⟨rfl, by decide, by decide, by decide +kernel⟩ ⟨Nat.le_of_ble_eq_true rfl, Nat.le_of_ble_eq_true rfl⟩) (tPc_pre _ (dW_t hj hP) hK (dW_tD hj hD)) rfl rfl hl.1 rfl (lv_room (Nat.le_of_ble_eq_true rfl)) d_D_keep_5 ⟨Nat.le_of_ble_eq_true rfl, Nat.le_of_ble_eq_true rfl⟩) hS (fun q _ h => hFc q h) hFc (fun u t H1 locs ht hvm hw hB1 hz1 hk1 hS => ?_)
  subst hw
  have hP : va_P (dC, dI) vwC (dW k b (yN d, yC d, va_up (yT d) j (tDrop (tMrg (yT d j) (xP (yT d j) - 2) 32)), yD d, yS d)) H1 := by rw [← ht] at hk1 ⊢; exact dW_join hj hP hD hB1 hk1
  have hD : va_D A (dW k b (yN d, yC d, va_up (yT d) j (tDrop (tMrg (yT d j) (xP (yT d j) - 2) 32)), yD d, yS d)) := dW_D hDk
  clear hFc hB1 hk1 hz1 ht hvm
  generalize H1 = H at hP hS ⊢
  exact xt_fin (Nat.le_of_ble_eq_true rfl) (Nat.le_of_ble_eq_true rfl) (W.vret hx hb hr (fun t ht hW => ⟨Or.inl ⟨none, (yN d, yC d, va_up (yT d) j (tDrop (tMrg (yT d j) (xP (yT d j) - 2) 32)), yD d, yS d), rfl, ⟨rfl, by unfold yKeep; rw [hq]; dsimp only; rw [if_neg (by rw [ho]; decide)]; rw [if_neg h8]; first | done | rfl⟩, by show va_P (dC, dI) vwC _ t.heap; rw [ht]; exact hP⟩, hS.F ht⟩) hS.2.2 d_D_keep_8)
set_option maxHeartbeats 4000000 in
set_option maxRecDepth 100000 in
theorem m_D_leave (l : Launch) (dC : Nat → ClassId) (dI : Nat → Nat → Nat) (k : Nat → ClassId) (b : Nat → Nat) (sz : Nat) (d : xDS) (tt : Int32) (htr : l.stackTraces = false) : xt_Met l y_D_leave w_D_leave (rmx 8 2 12 125) (dPc dC dI k b sz d [.ref (b 0), .int tt]) (xt_Q (fun v u => v = none ∧ (none, u) = yLeave d tt) (fun X u => (some X, u) = yLeave d tt) (dB dC dI k b) (va_A (dW k b d) sz)) 2 12 (va_A (dW k b d) sz) := by
  refine xt_ofW (cc := c_D_leave) (maxL := 2) (ret := none) (by decide) rfl ?_
  intro p e s m args below meth c s₁ B hml hout hv
  obtain ⟨rfl, hsz, hP, hK, hD0, hTh⟩ := hv
  have hx := B.exec
  have hb := B.bytes
  have hr := B.returns
  have hts := atoms_spec (ws := w_D_leave) B.pre
  have hB : ∀ w ∈ BIG, w.before _ s = true := fun w h => hts w (List.mem_cons_of_mem _ h)
  have hown : s.vm.findClass R_D = some m.cls := findClass_of_methodNamed B.named
  have hlocks := B.notSynchronized
  have hl := lv_entry ([.ref (b 0), .int tt]) (n := 2) (Nat.le_of_ble_eq_true rfl)
  rw [lg_entry_eq]
  generalize (lg_sl ([.ref (b 0), .int tt]) ++ List.replicate (2 - (lg_sl ([.ref (b 0), .int tt])).length) Slot.unset).toArray = ls at hl ⊢
  have hl : lv_has ls 2 [(0, .ref (b 0)), (1, .int tt)] := hl
  subst hsz
  have hst := xs_world hP
  have hD := hD0.self (sz := s.heap.size)
  generalize hAe : va_A (dW k b d) s.heap.size = A at hD hst ⊢
  have hA : ∀ q : Nat, s.heap.size ≤ q → A q := fun q h => by rw [← hAe]; exact Or.inr h
  have hS : va_S A s.heap s.heap [] := va_S.rf
  have hDk := hD
  refine lv_aload_n hx hb d_D_leave_0 rfl (lv_at hl 0 rfl) ?_
  refine lv_iload_n hx hb d_D_leave_1 rfl (lv_at hl 1 rfl) ?_
  have hFc := dW_all hD hS hA
  have hs0 := hS.1
  refine xt_cont (xt_runV (As := [.int tt]) (rest := []) ⟨hx, hb, hml, hown, hB⟩ (m_D_openTransactionOf l dC dI k b _ d tt htr) (cwV 1 hB (BIG_V bw_178 bw_179 bw_4 bw_16 bw_180) rfl rfl rfl ⟨rfl, by decide, by decide, by decide +kernel⟩ ⟨Nat.le_of_ble_eq_true rfl, Nat.le_of_ble_eq_true rfl⟩) (dPc_pre _ hP hK hD hTh (xs_keep.of hS hst)) rfl rfl hl.1 rfl (lv_room (Nat.le_of_ble_eq_true rfl)) d_D_leave_2 ⟨Nat.le_of_ble_eq_true rfl, Nat.le_of_ble_eq_true rfl⟩) hS (fun q _ h => hFc q h) hFc ?_ (fun X x8 u t H1 locs ht hvm hw hB1 hI hx1 hz1 hk1 hS => ?_)
  rotate_left
  · exact xt_thrW (Nat.le_of_ble_eq_true rfl) (Nat.le_of_ble_eq_true rfl) (xt_out hout (fun t2 ht2 hW2 => ⟨Or.inr ⟨X, x8, u, rfl, (by obtain ⟨h1 | ⟨j, h1, h2, h3⟩, h4⟩ := hw; exact (by rw [h1.2, h4]; unfold yLeave; rw [h1.1]); exact (by rw [h3, h4]; unfold yLeave; rw [h1]; dsimp only; rw [if_pos h2])), by show va_P (dC, dI) vwC _ t2.heap; rw [ht2, ← ht]; exact hB1, hI.mv (by rw [ht2, ht]) hvm hW2.alike, Nat.le_trans hs0 hx1⟩, hS.F ht2⟩) hS.2.2 hlocks)
  intro v8 u t H1 locs ht hvm hw hB1 hz1 hk1 hS
  obtain ⟨j, hq, ho, rfl, hu⟩ := hw
  rw [hu] at hB1
  have hP : va_P (dC, dI) vwC (dW k b d) H1 := by rw [← ht]; exact hB1
  clear hFc hB1 hk1 hz1 ht hvm hs0
  generalize H1 = H at hP hS ⊢
  refine W.eq (g2 := F0 m 5 ls [.ref (yA b j 0)]) (rfl) ?_
  obtain ⟨hj, htj⟩ := ix_some (by decide) hq
  have hFc := dW_free hj hD hS hA
  refine va_callv (va_runV (As := []) (rest := []) ⟨hx, hb, hml, hown, hB⟩ (m_T_close l dC dI k (yA b j) _ (yT d j)) (cwV 0 hB (BIG_V bw_199 bw_200 bw_201 bw_17 bw_202) rfl rfl rfl ⟨rfl, by decide, by decide, by decide +kernel⟩ ⟨Nat.le_of_ble_eq_true rfl, Nat.le_of_ble_eq_true rfl⟩) (tPc_pre _ (dW_t hj hP) hK (dW_tD hj hD)) rfl rfl hl.1 rfl (lv_room (Nat.le_of_ble_eq_true rfl)) d_D_leave_5 ⟨Nat.le_of_ble_eq_true rfl, Nat.le_of_ble_eq_true rfl⟩) hS (fun q _ h => hFc q h) hFc (fun u t H1 locs ht hvm hw hB1 hz1 hk1 hS => ?_)
  subst hw
  have hP : va_P (dC, dI) vwC (dW k b (yN d, yC d, va_up (yT d) j (tClose (yT d j)), yD d, yS d)) H1 := by rw [← ht] at hk1 ⊢; exact dW_join hj hP hD hB1 hk1
  have hD : va_D A (dW k b (yN d, yC d, va_up (yT d) j (tClose (yT d j)), yD d, yS d)) := dW_D hDk
  clear hFc hB1 hk1 hz1 ht hvm
  generalize H1 = H at hP hS ⊢
  exact xt_fin (Nat.le_of_ble_eq_true rfl) (Nat.le_of_ble_eq_true rfl) (W.vret hx hb hr (fun t ht hW => ⟨Or.inl ⟨none, (yN d, yC d, va_up (yT d) j (tClose (yT d j)), yD d, yS d), rfl, ⟨rfl, by unfold yLeave; rw [hq]; dsimp only; rw [if_neg (by rw [ho]; decide)]; first | done | rfl⟩, by show va_P (dC, dI) vwC _ t.heap; rw [ht]; exact hP⟩, hS.F ht⟩) hS.2.2 d_D_leave_8)
set_option maxHeartbeats 4000000 in
set_option maxRecDepth 100000 in
theorem m_D_set (l : Launch) (dC : Nat → ClassId) (dI : Nat → Nat → Nat) (k : Nat → ClassId) (b : Nat → Nat) (sz : Nat) (d : xDS) (kk : Int32) (x : Int64) (htr : l.stackTraces = false) : xt_Met l y_D_set w_D_set (rmx 7 1 6 103) (dPc dC dI k b sz d [.ref (b 0), .int kk, .long x]) (xt_Q (fun v u => v = none ∧ (none, u) = yPut d kk x) (fun X u => (some X, u) = yPut d kk x) (dB dC dI k b) (va_A (dW k b d) sz)) 1 6 (va_A (dW k b d) sz) := by
  refine xt_ofW (cc := c_D_set) (maxL := 4) (ret := none) (by decide) rfl ?_
  intro p e s m args below meth c s₁ B hml hout hv
  obtain ⟨rfl, hsz, hP, hK, hD0, hTh⟩ := hv
  have hx := B.exec
  have hb := B.bytes
  have hr := B.returns
  have hts := atoms_spec (ws := w_D_set) B.pre
  have hB : ∀ w ∈ BIG, w.before _ s = true := fun w h => hts w (List.mem_cons_of_mem _ h)
  have hown : s.vm.findClass R_D = some m.cls := findClass_of_methodNamed B.named
  have hlocks := B.notSynchronized
  have hl := lv_entry ([.ref (b 0), .int kk, .long x]) (n := 4) (Nat.le_of_ble_eq_true rfl)
  rw [lg_entry_eq]
  generalize (lg_sl ([.ref (b 0), .int kk, .long x]) ++ List.replicate (4 - (lg_sl ([.ref (b 0), .int kk, .long x])).length) Slot.unset).toArray = ls at hl ⊢
  have hl : lv_has ls 4 [(0, .ref (b 0)), (1, .int kk), (2, .long x)] := hl
  subst hsz
  have hst := xs_world hP
  have hD := hD0.self (sz := s.heap.size)
  generalize hAe : va_A (dW k b d) s.heap.size = A at hD hst ⊢
  have hA : ∀ q : Nat, s.heap.size ≤ q → A q := fun q h => by rw [← hAe]; exact Or.inr h
  have hS : va_S A s.heap s.heap [] := va_S.rf
  have hDk := hD
  refine lv_aload_n hx hb d_D_set_0 rfl (lv_at hl 0 rfl) ?_
  refine lv_iload_n hx hb d_D_set_1 rfl (lv_at hl 1 rfl) ?_
  have hFc := dW_all hD hS hA
  have hs0 := hS.1
  refine xt_cont (xt_runV (As := [.int kk]) (rest := []) ⟨hx, hb, hml, hown, hB⟩ (m_D_requireCell l dC dI k b _ d kk htr) (cwV 1 hB (BIG_V bw_161 bw_162 bw_3 bw_16 bw_163) rfl rfl rfl ⟨rfl, by decide, by decide, by decide +kernel⟩ ⟨Nat.le_of_ble_eq_true rfl, Nat.le_of_ble_eq_true rfl⟩) (dPc_pre _ hP hK hD hTh (xs_keep.of hS hst)) rfl rfl hl.1 rfl (lv_room (Nat.le_of_ble_eq_true rfl)) d_D_set_2 ⟨Nat.le_of_ble_eq_true rfl, Nat.le_of_ble_eq_true rfl⟩) hS (fun q _ h => hFc q h) hFc ?_ (fun X x8 u t H1 locs ht hvm hw hB1 hI hx1 hz1 hk1 hS => ?_)
  rotate_left
  · exact xt_thrW (Nat.le_of_ble_eq_true rfl) (Nat.le_of_ble_eq_true rfl) (xt_out hout (fun t2 ht2 hW2 => ⟨Or.inr ⟨X, x8, u, rfl, (by obtain ⟨h1, h2, h3⟩ := hw; rw [h2, h3]; unfold yPut; rw [h1]), by show va_P (dC, dI) vwC _ t2.heap; rw [ht2, ← ht]; exact hB1, hI.mv (by rw [ht2, ht]) hvm hW2.alike, Nat.le_trans hs0 hx1⟩, hS.F ht2⟩) hS.2.2 hlocks)
  intro v8 u t H1 locs ht hvm hw hB1 hz1 hk1 hS
  obtain ⟨i, hy, rfl, hu⟩ := hw
  rw [hu] at hB1
  have hP : va_P (dC, dI) vwC (dW k b d) H1 := by rw [← ht]; exact hB1
  clear hFc hB1 hk1 hz1 ht hvm hs0
  generalize H1 = H at hP hS ⊢
  refine W.eq (g2 := F0 m 5 ls []) (rfl) ?_
  obtain ⟨hi, hti⟩ := ix_some (by decide) hy
  subst hti
  refine lv_aload_n hx hb d_D_set_5 rfl (lv_at hl 0 rfl) ?_
  refine lv_iload_n hx hb d_D_set_6 rfl (lv_at hl 1 rfl) ?_
  refine lv_lload_n hx hb d_D_set_7 rfl (lv_at hl 2 rfl) ?_
  have hFc := dW_all hD hS hA
  refine va_callv (va_runV (As := [.int (nI i), .long x]) (rest := []) ⟨hx, hb, hml, hown, hB⟩ (m_D_change l dC dI k b _ d i x hi) (cwV 2 hB (BIG_V bw_283 bw_284 bw_8 bw_16 bw_285) rfl rfl rfl ⟨rfl, by decide, by decide, by decide +kernel⟩ ⟨Nat.le_of_ble_eq_true rfl, Nat.le_of_ble_eq_true rfl⟩) (dPc_pre _ hP hK hD hTh (xs_keep.of hS hst)) rfl rfl hl.1 rfl (lv_room (Nat.le_of_ble_eq_true rfl)) d_D_set_8 ⟨Nat.le_of_ble_eq_true rfl, Nat.le_of_ble_eq_true rfl⟩) hS (fun q _ h => hFc q h) hFc (fun u t H1 locs ht hvm hw hB1 hz1 hk1 hS => ?_)
  subst hw
  have hP : va_P (dC, dI) vwC (dW k b (yChange d i x)) H1 := by rw [← ht]; exact hB1
  have hD : va_D A (dW k b (yChange d i x)) := dW_D hDk
  clear hFc hB1 hk1 hz1 ht hvm
  generalize H1 = H at hP hS ⊢
  exact xt_fin (Nat.le_of_ble_eq_true rfl) (Nat.le_of_ble_eq_true rfl) (W.vret hx hb hr (fun t ht hW => ⟨Or.inl ⟨none, yChange d i x, rfl, ⟨rfl, by unfold yPut; rw [hy]; first | done | rfl⟩, by show va_P (dC, dI) vwC _ t.heap; rw [ht]; exact hP⟩, hS.F ht⟩) hS.2.2 d_D_set_11)
set_option maxHeartbeats 4000000 in
set_option maxRecDepth 100000 in
theorem m_D_cell (l : Launch) (dC : Nat → ClassId) (dI : Nat → Nat → Nat) (k : Nat → ClassId) (b : Nat → Nat) (sz : Nat) (d : xDS) (kk : Int32) (htr : l.stackTraces = false) : xt_Met l y_D_cell w_D_cell (rmx 7 1 6 103) (dPc dC dI k b sz d [.ref (b 0), .int kk]) (xt_Q (fun v u => ∃ x, v = some (.long x) ∧ (none, x) = yCell d kk ∧ u = d) (fun X u => (some X, 0) = yCell d kk ∧ u = d) (dB dC dI k b) (va_A (dW k b d) sz)) 1 6 (va_A (dW k b d) sz) := by
  refine xt_ofW (cc := c_D_cell) (maxL := 2) (ret := (some .long)) (by decide) rfl ?_
  intro p e s m args below meth c s₁ B hml hout hv
  obtain ⟨rfl, hsz, hP, hK, hD0, hTh⟩ := hv
  have hx := B.exec
  have hb := B.bytes
  have hr := B.returns
  have hts := atoms_spec (ws := w_D_cell) B.pre
  have hB : ∀ w ∈ BIG, w.before _ s = true := fun w h => hts w (List.mem_cons_of_mem _ h)
  have hown : s.vm.findClass R_D = some m.cls := findClass_of_methodNamed B.named
  have hlocks := B.notSynchronized
  have hl := lv_entry ([.ref (b 0), .int kk]) (n := 2) (Nat.le_of_ble_eq_true rfl)
  rw [lg_entry_eq]
  generalize (lg_sl ([.ref (b 0), .int kk]) ++ List.replicate (2 - (lg_sl ([.ref (b 0), .int kk])).length) Slot.unset).toArray = ls at hl ⊢
  have hl : lv_has ls 2 [(0, .ref (b 0)), (1, .int kk)] := hl
  subst hsz
  have hst := xs_world hP
  have hD := hD0.self (sz := s.heap.size)
  generalize hAe : va_A (dW k b d) s.heap.size = A at hD hst ⊢
  have hA : ∀ q : Nat, s.heap.size ≤ q → A q := fun q h => by rw [← hAe]; exact Or.inr h
  have hS : va_S A s.heap s.heap [] := va_S.rf
  have hDk := hD
  refine lv_aload_n hx hb d_D_cell_0 rfl (lv_at hl 0 rfl) ?_
  refine lv_iload_n hx hb d_D_cell_1 rfl (lv_at hl 1 rfl) ?_
  have hFc := dW_all hD hS hA
  have hs0 := hS.1
  refine xt_cont (xt_runV (As := [.int kk]) (rest := []) ⟨hx, hb, hml, hown, hB⟩ (m_D_requireCell l dC dI k b _ d kk htr) (cwV 1 hB (BIG_V bw_161 bw_162 bw_3 bw_16 bw_163) rfl rfl rfl ⟨rfl, by decide, by decide, by decide +kernel⟩ ⟨Nat.le_of_ble_eq_true rfl, Nat.le_of_ble_eq_true rfl⟩) (dPc_pre _ hP hK hD hTh (xs_keep.of hS hst)) rfl rfl hl.1 rfl (lv_room (Nat.le_of_ble_eq_true rfl)) d_D_cell_2 ⟨Nat.le_of_ble_eq_true rfl, Nat.le_of_ble_eq_true rfl⟩) hS (fun q _ h => hFc q h) hFc ?_ (fun X x8 u t H1 locs ht hvm hw hB1 hI hx1 hz1 hk1 hS => ?_)
  rotate_left
  · exact xt_thrW (Nat.le_of_ble_eq_true rfl) (Nat.le_of_ble_eq_true rfl) (xt_out hout (fun t2 ht2 hW2 => ⟨Or.inr ⟨X, x8, u, rfl, (by obtain ⟨h1, h2, h3⟩ := hw; rw [h2]; exact ⟨by unfold yCell; rw [h1], h3⟩), by show va_P (dC, dI) vwC _ t2.heap; rw [ht2, ← ht]; exact hB1, hI.mv (by rw [ht2, ht]) hvm hW2.alike, Nat.le_trans hs0 hx1⟩, hS.F ht2⟩) hS.2.2 hlocks)
  intro v8 u t H1 locs ht hvm hw hB1 hz1 hk1 hS
  obtain ⟨i, hy, rfl, hu⟩ := hw
  rw [hu] at hB1
  have hP : va_P (dC, dI) vwC (dW k b d) H1 := by rw [← ht]; exact hB1
  clear hFc hB1 hk1 hz1 ht hvm hs0
  generalize H1 = H at hP hS ⊢
  refine W.eq (g2 := F0 m 5 ls []) (rfl) ?_
  obtain ⟨hi, hti⟩ := ix_some (by decide) hy
  subst hti
  refine lv_aload_n hx hb d_D_cell_5 rfl (lv_at hl 0 rfl) ?_
  refine va_get (D := (dC, dI)) (ci := 1) (v := .ref (b 1)) (C := R_D) (T := F_D) (N := 5) hx hb hB in_D hown hK hP 0 rfl rfl 0 (by decide) (hB _ bw_56) (fun _ h9 => h9) rfl d_D_cell_6 ?_
  refine lv_iload_n hx hb d_D_cell_9 rfl (lv_at hl 1 rfl) ?_
  refine va_lald hx hb hK hP 1 1 rfl rfl (pk_in i 32 (by omega)) d_D_cell_10 ?_
  refine W.eq (g2 := F0 m 11 ls [.long (yN d i)]) (by rw [cl_nI (by omega)]) ?_
  exact xt_fin (Nat.le_of_ble_eq_true rfl) (Nat.le_of_ble_eq_true rfl) (W.lret (v := yN d i) hx hb hr (fun t ht hW => ⟨Or.inl ⟨some (.long (yN d i)), d, rfl, ⟨_, rfl, by unfold yCell; rw [hy]; first | done | rfl, rfl⟩, by show va_P (dC, dI) vwC _ t.heap; rw [ht]; exact hP⟩, hS.F ht⟩) hS.2.2 d_D_cell_11)
set_option maxHeartbeats 4000000 in
set_option maxRecDepth 100000 in
theorem m_D_changed (l : Launch) (dC : Nat → ClassId) (dI : Nat → Nat → Nat) (k : Nat → ClassId) (b : Nat → Nat) (sz : Nat) (d : xDS) (kk : Int32) (htr : l.stackTraces = false) : xt_Met l y_D_changed w_D_changed (rmx 7 1 6 103) (dPc dC dI k b sz d [.ref (b 0), .int kk]) (xt_Q (fun v u => ∃ x, v = some (.int x) ∧ (none, x) = yChd d kk ∧ u = d) (fun X u => (some X, 0) = yChd d kk ∧ u = d) (dB dC dI k b) (va_A (dW k b d) sz)) 1 6 (va_A (dW k b d) sz) := by
  refine xt_ofW (cc := c_D_changed) (maxL := 2) (ret := (some .int)) (by decide) rfl ?_
  intro p e s m args below meth c s₁ B hml hout hv
  obtain ⟨rfl, hsz, hP, hK, hD0, hTh⟩ := hv
  have hx := B.exec
  have hb := B.bytes
  have hr := B.returns
  have hts := atoms_spec (ws := w_D_changed) B.pre
  have hB : ∀ w ∈ BIG, w.before _ s = true := fun w h => hts w (List.mem_cons_of_mem _ h)
  have hown : s.vm.findClass R_D = some m.cls := findClass_of_methodNamed B.named
  have hlocks := B.notSynchronized
  have hl := lv_entry ([.ref (b 0), .int kk]) (n := 2) (Nat.le_of_ble_eq_true rfl)
  rw [lg_entry_eq]
  generalize (lg_sl ([.ref (b 0), .int kk]) ++ List.replicate (2 - (lg_sl ([.ref (b 0), .int kk])).length) Slot.unset).toArray = ls at hl ⊢
  have hl : lv_has ls 2 [(0, .ref (b 0)), (1, .int kk)] := hl
  subst hsz
  have hst := xs_world hP
  have hD := hD0.self (sz := s.heap.size)
  generalize hAe : va_A (dW k b d) s.heap.size = A at hD hst ⊢
  have hA : ∀ q : Nat, s.heap.size ≤ q → A q := fun q h => by rw [← hAe]; exact Or.inr h
  have hS : va_S A s.heap s.heap [] := va_S.rf
  have hDk := hD
  refine lv_aload_n hx hb d_D_changed_0 rfl (lv_at hl 0 rfl) ?_
  refine lv_iload_n hx hb d_D_changed_1 rfl (lv_at hl 1 rfl) ?_
  have hFc := dW_all hD hS hA
  have hs0 := hS.1
  refine xt_cont (xt_runV (As := [.int kk]) (rest := []) ⟨hx, hb, hml, hown, hB⟩ (m_D_requireCell l dC dI k b _ d kk htr) (cwV 1 hB (BIG_V bw_161 bw_162 bw_3 bw_16 bw_163) rfl rfl rfl ⟨rfl, by decide, by decide, by decide +kernel⟩ ⟨Nat.le_of_ble_eq_true rfl, Nat.le_of_ble_eq_true rfl⟩) (dPc_pre _ hP hK hD hTh (xs_keep.of hS hst)) rfl rfl hl.1 rfl (lv_room (Nat.le_of_ble_eq_true rfl)) d_D_changed_2 ⟨Nat.le_of_ble_eq_true rfl, Nat.le_of_ble_eq_true rfl⟩) hS (fun q _ h => hFc q h) hFc ?_ (fun X x8 u t H1 locs ht hvm hw hB1 hI hx1 hz1 hk1 hS => ?_)
  rotate_left
  · exact xt_thrW (Nat.le_of_ble_eq_true rfl) (Nat.le_of_ble_eq_true rfl) (xt_out hout (fun t2 ht2 hW2 => ⟨Or.inr ⟨X, x8, u, rfl, (by obtain ⟨h1, h2, h3⟩ := hw; rw [h2]; exact ⟨by unfold yChd; rw [h1], h3⟩), by show va_P (dC, dI) vwC _ t2.heap; rw [ht2, ← ht]; exact hB1, hI.mv (by rw [ht2, ht]) hvm hW2.alike, Nat.le_trans hs0 hx1⟩, hS.F ht2⟩) hS.2.2 hlocks)
  intro v8 u t H1 locs ht hvm hw hB1 hz1 hk1 hS
  obtain ⟨i, hy, rfl, hu⟩ := hw
  rw [hu] at hB1
  have hP : va_P (dC, dI) vwC (dW k b d) H1 := by rw [← ht]; exact hB1
  clear hFc hB1 hk1 hz1 ht hvm hs0
  generalize H1 = H at hP hS ⊢
  refine W.eq (g2 := F0 m 5 ls []) (rfl) ?_
  obtain ⟨hi, hti⟩ := ix_some (by decide) hy
  subst hti
  refine lv_aload_n hx hb d_D_changed_5 rfl (lv_at hl 0 rfl) ?_
  refine va_get (D := (dC, dI)) (ci := 1) (v := .ref (b 2)) (C := R_D) (T := F_D) (N := 5) hx hb hB in_D hown hK hP 0 rfl rfl 1 (by decide) (hB _ bw_57) (fun _ h9 => h9) rfl d_D_changed_6 ?_
  refine lv_iload_n hx hb d_D_changed_9 rfl (lv_at hl 1 rfl) ?_
  refine va_iald hx hb hK hP 2 0 rfl rfl (pk_in i 32 (by omega)) d_D_changed_10 ?_
  refine W.eq (g2 := F0 m 11 ls [.int (yC d i)]) (by rw [cl_nI (by omega)]) ?_
  exact xt_fin (Nat.le_of_ble_eq_true rfl) (Nat.le_of_ble_eq_true rfl) (W.iret (v := yC d i) hx hb hr (fun t ht hW => ⟨Or.inl ⟨some (.int (yC d i)), d, rfl, ⟨_, rfl, by unfold yChd; rw [hy]; first | done | rfl, rfl⟩, by show va_P (dC, dI) vwC _ t.heap; rw [ht]; exact hP⟩, hS.F ht⟩) hS.2.2 d_D_changed_11)
set_option maxHeartbeats 4000000 in
set_option maxRecDepth 100000 in
theorem m_D_count (l : Launch) (dC : Nat → ClassId) (dI : Nat → Nat → Nat) (k : Nat → ClassId) (b : Nat → Nat) (sz : Nat) (d : xDS) (tt ww : Int32) (htr : l.stackTraces = false) (hok : dOk d) : xt_Met l y_D_count w_D_count (rmx 8 3 18 125) (dPc dC dI k b sz d [.ref (b 0), .int tt, .int ww]) (xt_Q (fun v u => ∃ x, v = some (.int x) ∧ (none, x) = yCount d tt ww ∧ u = d) (fun X u => (some X, 0) = yCount d tt ww ∧ u = d) (dB dC dI k b) (va_A (dW k b d) sz)) 3 18 (va_A (dW k b d) sz) := by
  refine xt_ofW (cc := c_D_count) (maxL := 4) (ret := (some .int)) (by decide) rfl ?_
  intro p e s m args below meth c s₁ B hml hout hv
  obtain ⟨rfl, hsz, hP, hK, hD0, hTh⟩ := hv
  have hx := B.exec
  have hb := B.bytes
  have hr := B.returns
  have hts := atoms_spec (ws := w_D_count) B.pre
  have hB : ∀ w ∈ BIG, w.before _ s = true := fun w h => hts w (List.mem_cons_of_mem _ h)
  have hown : s.vm.findClass R_D = some m.cls := findClass_of_methodNamed B.named
  have hlocks := B.notSynchronized
  have hl := lv_entry ([.ref (b 0), .int tt, .int ww]) (n := 4) (Nat.le_of_ble_eq_true rfl)
  rw [lg_entry_eq]
  generalize (lg_sl ([.ref (b 0), .int tt, .int ww]) ++ List.replicate (4 - (lg_sl ([.ref (b 0), .int tt, .int ww])).length) Slot.unset).toArray = ls at hl ⊢
  have hl : lv_has ls 4 [(0, .ref (b 0)), (1, .int tt), (2, .int ww)] := hl
  subst hsz
  have hst := xs_world hP
  have hD := hD0.self (sz := s.heap.size)
  generalize hAe : va_A (dW k b d) s.heap.size = A at hD hst ⊢
  have hA : ∀ q : Nat, s.heap.size ≤ q → A q := fun q h => by rw [← hAe]; exact Or.inr h
  have hS : va_S A s.heap s.heap [] := va_S.rf
  have hDk := hD
  rcases ix_or 4 ww with hy | ⟨c8, hy⟩
  · skip
    refine lv_iload_n hx hb d_D_count_0 rfl (lv_at hl 2 rfl) ?_
    refine lv_if_lt hx hb d_D_count_1 rfl (fun h9 => ?_) (fun h9 => ?_)
    · skip
      exact xt_thr (Nat.le_of_ble_eq_true rfl) (Nat.le_of_ble_eq_true rfl) (xs_throw (names := xN) (tx := "no such what") hx hb htr (hl.1.trans hml.symm) hlocks hown xL_all hTh (xs_keep.of hS hst) (by decide) (by decide) xL_A (by decide) d_D_count_9 d_D_count_12 d_D_count_13 d_D_count_15 d_D_count_18 hout (Nat.le_of_ble_eq_true rfl) (Nat.le_of_ble_eq_true rfl) (Nat.le_of_ble_eq_true rfl) (Nat.le_of_ble_eq_true rfl) (fun t hold hge hW hI => ⟨Or.inr ⟨qA, _, d, rfl, ⟨by unfold yCount; rw [hy]; first | done | rfl, rfl⟩, hP.kept (fun _ q hk => hold q.1 (hP _ q hk).lt), hI, hS.1⟩, Nat.le_trans hS.1 hge, fun q h1 h2 => (hold q (Nat.lt_of_lt_of_le h1 hS.1)).trans (hS.2.1 q h1 h2)⟩) hS.2.2)
    · skip
      refine lv_iload_n hx hb d_D_count_4 rfl (lv_at hl 2 rfl) ?_
      refine lv_iconst (v := nI 3) hx hb d_D_count_5 (by decide) ?_
      refine lv_icmp_le hx hb d_D_count_6 rfl (fun h8 => absurd (ix_lt (by decide) hy h9 (Int32.lt_iff_toInt_lt.mpr (by rw [Int32.le_iff_toInt_le, nI_toInt (by decide)] at h8; rw [nI_toInt (by decide)]; omega))) id) (fun h8 => ?_)
      exact xt_thr (Nat.le_of_ble_eq_true rfl) (Nat.le_of_ble_eq_true rfl) (xs_throw (names := xN) (tx := "no such what") hx hb htr (hl.1.trans hml.symm) hlocks hown xL_all hTh (xs_keep.of hS hst) (by decide) (by decide) xL_A (by decide) d_D_count_9 d_D_count_12 d_D_count_13 d_D_count_15 d_D_count_18 hout (Nat.le_of_ble_eq_true rfl) (Nat.le_of_ble_eq_true rfl) (Nat.le_of_ble_eq_true rfl) (Nat.le_of_ble_eq_true rfl) (fun t hold hge hW hI => ⟨Or.inr ⟨qA, _, d, rfl, ⟨by unfold yCount; rw [hy]; first | done | rfl, rfl⟩, hP.kept (fun _ q hk => hold q.1 (hP _ q hk).lt), hI, hS.1⟩, Nat.le_trans hS.1 hge, fun q h1 h2 => (hold q (Nat.lt_of_lt_of_le h1 hS.1)).trans (hS.2.1 q h1 h2)⟩) hS.2.2)
  · obtain ⟨hc8, htc⟩ := ix_some (by decide) hy
    subst htc
    refine lv_iload_n hx hb d_D_count_0 rfl (lv_at hl 2 rfl) ?_
    refine lv_if_lt hx hb d_D_count_1 rfl (fun h9 => absurd h9 (nI_pos (by omega))) (fun _ => ?_)
    refine lv_iload_n hx hb d_D_count_4 rfl (lv_at hl 2 rfl) ?_
    refine lv_iconst (v := nI 3) hx hb d_D_count_5 (by decide) ?_
    refine lv_icmp_le hx hb d_D_count_6 rfl (fun _ => ?_) (fun h9 => absurd (nI_le (by omega) (by omega)) h9)
    refine lv_aload_n hx hb d_D_count_19 rfl (lv_at hl 0 rfl) ?_
    refine lv_iload_n hx hb d_D_count_20 rfl (lv_at hl 1 rfl) ?_
    have hFc := dW_all hD hS hA
    have hs0 := hS.1
    refine xt_cont (xt_runV (As := [.int tt]) (rest := []) ⟨hx, hb, hml, hown, hB⟩ (m_D_openTransactionOf l dC dI k b _ d tt htr) (cwV 1 hB (BIG_V bw_178 bw_179 bw_4 bw_16 bw_180) rfl rfl rfl ⟨rfl, by decide, by decide, by decide +kernel⟩ ⟨Nat.le_of_ble_eq_true rfl, Nat.le_of_ble_eq_true rfl⟩) (dPc_pre _ hP hK hD hTh (xs_keep.of hS hst)) rfl rfl hl.1 rfl (lv_room (Nat.le_of_ble_eq_true rfl)) d_D_count_21 ⟨Nat.le_of_ble_eq_true rfl, Nat.le_of_ble_eq_true rfl⟩) hS (fun q _ h => hFc q h) hFc ?_ (fun X x8 u t H1 locs ht hvm hw hB1 hI hx1 hz1 hk1 hS => ?_)
    rotate_left
    · exact xt_thrW (Nat.le_of_ble_eq_true rfl) (Nat.le_of_ble_eq_true rfl) (xt_out hout (fun t2 ht2 hW2 => ⟨Or.inr ⟨X, x8, u, rfl, (by obtain ⟨h1 | ⟨j, h1, h2, h3⟩, h4⟩ := hw; exact (by rw [h1.2]; exact ⟨by unfold yCount; rw [hy]; dsimp only; rw [h1.1], h4⟩); exact (by rw [h3]; exact ⟨by unfold yCount; rw [hy]; dsimp only; rw [h1]; dsimp only; rw [if_pos h2], h4⟩)), by show va_P (dC, dI) vwC _ t2.heap; rw [ht2, ← ht]; exact hB1, hI.mv (by rw [ht2, ht]) hvm hW2.alike, Nat.le_trans hs0 hx1⟩, hS.F ht2⟩) hS.2.2 hlocks)
    intro v8 u t H1 locs ht hvm hw hB1 hz1 hk1 hS
    obtain ⟨j, hq, ho, rfl, hu⟩ := hw
    rw [hu] at hB1
    have hP : va_P (dC, dI) vwC (dW k b d) H1 := by rw [← ht]; exact hB1
    clear hFc hB1 hk1 hz1 ht hvm hs0
    generalize H1 = H at hP hS ⊢
    refine W.eq (g2 := F0 m 24 ls [.ref (yA b j 0)]) (rfl) ?_
    obtain ⟨hj, htj⟩ := ix_some (by decide) hq
    obtain ⟨hp1, hp5⟩ := hok j hj ho
    refine lv_astore_n hx hb d_D_count_24 rfl hl (by decide) rfl (fun ls hl => ?_)
    have hl : lv_has ls 4 [(3, .ref (yA b j 0)), (0, .ref (b 0)), (1, .int tt), (2, .int (nI c8))] := hl
    refine lv_iload_n hx hb d_D_count_25 rfl (lv_at hl 3 rfl) ?_
    have h4 : c8 = 0 ∨ c8 = 1 ∨ c8 = 2 ∨ c8 = 3 := by omega
    rcases h4 with h4 | h4 | h4 | h4
    · subst h4
      refine lv_tableIn (tgt := 52) hx hb d_D_count_26 (by decide) (by decide) rfl rfl ?_
      refine lv_aload_n hx hb d_D_count_52 rfl (lv_at hl 0 rfl) ?_
      refine vp_callSi (va_Run.run (va_runV (As := []) (rest := []) ⟨hx, hb, hml, hown, hB⟩ (m_T_readCount l dC dI k (yA b j) (yT d j)) (cwV 0 hB (BIG_V bw_325 bw_326 bw_327 bw_17 bw_328) rfl rfl rfl ⟨rfl, by decide, by decide, by decide +kernel⟩ ⟨Nat.le_of_ble_eq_true rfl, Nat.le_of_ble_eq_true rfl⟩) (tRc_pre _ (dW_t hj hP) hK) rfl rfl hl.1 rfl (lv_room (Nat.le_of_ble_eq_true rfl)) d_D_count_53 ⟨Nat.le_of_ble_eq_true rfl, Nat.le_of_ble_eq_true rfl⟩)) (fun r7 hr7 => ?_)
      subst hr7
      exact xt_fin (Nat.le_of_ble_eq_true rfl) (Nat.le_of_ble_eq_true rfl) (W.iret (v := nI (bCnt (xR (yT d j)) 32)) hx hb hr (fun t ht hW => ⟨Or.inl ⟨some (.int (nI (bCnt (xR (yT d j)) 32))), d, rfl, ⟨_, rfl, by unfold yCount; rw [hy]; dsimp only; rw [hq]; dsimp only; rw [if_neg (by rw [ho]; decide)]; first | done | rfl, rfl⟩, by show va_P (dC, dI) vwC _ t.heap; rw [ht]; exact hP⟩, hS.F ht⟩) hS.2.2 d_D_count_56)
    · subst h4
      refine lv_tableIn (tgt := 57) hx hb d_D_count_26 (by decide) (by decide) rfl rfl ?_
      refine lv_aload_n hx hb d_D_count_57 rfl (lv_at hl 0 rfl) ?_
      refine vp_callSi (va_Run.run (va_runV (As := []) (rest := []) ⟨hx, hb, hml, hown, hB⟩ (m_T_writtenCount l dC dI k (yA b j) (yT d j) hp5) (cwV 0 hB (BIG_V bw_335 bw_336 bw_337 bw_17 bw_338) rfl rfl rfl ⟨rfl, by decide, by decide, by decide +kernel⟩ ⟨Nat.le_of_ble_eq_true rfl, Nat.le_of_ble_eq_true rfl⟩) (tRc_pre _ (dW_t hj hP) hK) rfl rfl hl.1 rfl (lv_room (Nat.le_of_ble_eq_true rfl)) d_D_count_58 ⟨Nat.le_of_ble_eq_true rfl, Nat.le_of_ble_eq_true rfl⟩)) (fun r7 hr7 => ?_)
      subst hr7
      exact xt_fin (Nat.le_of_ble_eq_true rfl) (Nat.le_of_ble_eq_true rfl) (W.iret (v := nI (bCnt (tAll (xW (yT d j)) (xP (yT d j))) 32)) hx hb hr (fun t ht hW => ⟨Or.inl ⟨some (.int (nI (bCnt (tAll (xW (yT d j)) (xP (yT d j))) 32))), d, rfl, ⟨_, rfl, by unfold yCount; rw [hy]; dsimp only; rw [hq]; dsimp only; rw [if_neg (by rw [ho]; decide)]; first | done | rfl, rfl⟩, by show va_P (dC, dI) vwC _ t.heap; rw [ht]; exact hP⟩, hS.F ht⟩) hS.2.2 d_D_count_61)
    · subst h4
      refine lv_tableIn (tgt := 62) hx hb d_D_count_26 (by decide) (by decide) rfl rfl ?_
      refine lv_aload_n hx hb d_D_count_62 rfl (lv_at hl 0 rfl) ?_
      refine vp_callSi (va_Run.run (va_runV (As := []) (rest := []) ⟨hx, hb, hml, hown, hB⟩ (m_T_partCount l dC dI k (yA b j) (yT d j)) (cwV 0 hB (BIG_V bw_242 bw_243 bw_244 bw_17 bw_245) rfl rfl rfl ⟨rfl, by decide, by decide, by decide +kernel⟩ ⟨Nat.le_of_ble_eq_true rfl, Nat.le_of_ble_eq_true rfl⟩) (tRc_pre _ (dW_t hj hP) hK) rfl rfl hl.1 rfl (lv_room (Nat.le_of_ble_eq_true rfl)) d_D_count_63 ⟨Nat.le_of_ble_eq_true rfl, Nat.le_of_ble_eq_true rfl⟩)) (fun r7 hr7 => ?_)
      subst hr7
      exact xt_fin (Nat.le_of_ble_eq_true rfl) (Nat.le_of_ble_eq_true rfl) (W.iret (v := nI (xP (yT d j))) hx hb hr (fun t ht hW => ⟨Or.inl ⟨some (.int (nI (xP (yT d j)))), d, rfl, ⟨_, rfl, by unfold yCount; rw [hy]; dsimp only; rw [hq]; dsimp only; rw [if_neg (by rw [ho]; decide)]; first | done | rfl, rfl⟩, by show va_P (dC, dI) vwC _ t.heap; rw [ht]; exact hP⟩, hS.F ht⟩) hS.2.2 d_D_count_66)
    · subst h4
      refine lv_tableOut (tgt := 67) hx hb d_D_count_26 (by decide) rfl ?_
      refine lv_aload_n hx hb d_D_count_67 rfl (lv_at hl 0 rfl) ?_
      refine vp_callSi (va_Run.run (va_runV (As := []) (rest := []) ⟨hx, hb, hml, hown, hB⟩ (m_T_isStale l dC dI k (yA b j) (yT d j)) (cwV 0 hB (BIG_V bw_192 bw_193 bw_194 bw_17 bw_195) rfl rfl rfl ⟨rfl, by decide, by decide, by decide +kernel⟩ ⟨Nat.le_of_ble_eq_true rfl, Nat.le_of_ble_eq_true rfl⟩) (tRc_pre _ (dW_t hj hP) hK) rfl rfl hl.1 rfl (lv_room (Nat.le_of_ble_eq_true rfl)) d_D_count_68 ⟨Nat.le_of_ble_eq_true rfl, Nat.le_of_ble_eq_true rfl⟩)) (fun r7 hr7 => ?_)
      subst hr7
      cases hs : xS (yT d j) with
      | true =>
        refine lv_if_eq hx hb d_D_count_71 rfl (fun h9 => absurd h9 (by decide)) (fun _ => ?_)
        refine lv_iconst (v := bI true) hx hb d_D_count_74 (by decide) ?_
        refine lv_goto hx hb d_D_count_75 rfl ?_
        exact xt_fin (Nat.le_of_ble_eq_true rfl) (Nat.le_of_ble_eq_true rfl) (W.iret (v := bI true) hx hb hr (fun t ht hW => ⟨Or.inl ⟨some (.int (bI true)), d, rfl, ⟨_, rfl, by unfold yCount; rw [hy]; dsimp only; rw [hq]; dsimp only; rw [if_neg (by rw [ho]; decide)]; rw [hs]; first | done | rfl, rfl⟩, by show va_P (dC, dI) vwC _ t.heap; rw [ht]; exact hP⟩, hS.F ht⟩) hS.2.2 d_D_count_79)
      | false =>
        refine lv_if_eq hx hb d_D_count_71 rfl (fun _ => ?_) (fun h9 => absurd (by decide) h9)
        refine lv_iconst (v := bI false) hx hb d_D_count_78 (by decide) ?_
        exact xt_fin (Nat.le_of_ble_eq_true rfl) (Nat.le_of_ble_eq_true rfl) (W.iret (v := bI false) hx hb hr (fun t ht hW => ⟨Or.inl ⟨some (.int (bI false)), d, rfl, ⟨_, rfl, by unfold yCount; rw [hy]; dsimp only; rw [hq]; dsimp only; rw [if_neg (by rw [ho]; decide)]; rw [hs]; first | done | rfl, rfl⟩, by show va_P (dC, dI) vwC _ t.heap; rw [ht]; exact hP⟩, hS.F ht⟩) hS.2.2 d_D_count_79)
set_option maxHeartbeats 4000000 in
set_option maxRecDepth 100000 in
theorem m_D_all (l : Launch) (dC : Nat → ClassId) (dI : Nat → Nat → Nat) (k : Nat → ClassId) (b : Nat → Nat) (sz : Nat) (d : xDS) (ww : Int32) (htr : l.stackTraces = false) : xt_Met l y_D_all w_D_all (rmx 6 1 6 82) (dPc dC dI k b sz d [.ref (b 0), .int ww]) (xt_Q (fun v u => ∃ x, v = some (.int x) ∧ (none, x) = yAll d ww ∧ u = d) (fun X u => (some X, 0) = yAll d ww ∧ u = d) (dB dC dI k b) (va_A (dW k b d) sz)) 1 6 (va_A (dW k b d) sz) := by
  refine xt_ofW (cc := c_D_all) (maxL := 2) (ret := (some .int)) (by decide) rfl ?_
  intro p e s m args below meth c s₁ B hml hout hv
  obtain ⟨rfl, hsz, hP, hK, hD0, hTh⟩ := hv
  have hx := B.exec
  have hb := B.bytes
  have hr := B.returns
  have hts := atoms_spec (ws := w_D_all) B.pre
  have hB : ∀ w ∈ BIG, w.before _ s = true := fun w h => hts w (List.mem_cons_of_mem _ h)
  have hown : s.vm.findClass R_D = some m.cls := findClass_of_methodNamed B.named
  have hlocks := B.notSynchronized
  have hl := lv_entry ([.ref (b 0), .int ww]) (n := 2) (Nat.le_of_ble_eq_true rfl)
  rw [lg_entry_eq]
  generalize (lg_sl ([.ref (b 0), .int ww]) ++ List.replicate (2 - (lg_sl ([.ref (b 0), .int ww])).length) Slot.unset).toArray = ls at hl ⊢
  have hl : lv_has ls 2 [(0, .ref (b 0)), (1, .int ww)] := hl
  subst hsz
  have hst := xs_world hP
  have hD := hD0.self (sz := s.heap.size)
  generalize hAe : va_A (dW k b d) s.heap.size = A at hD hst ⊢
  have hA : ∀ q : Nat, s.heap.size ≤ q → A q := fun q h => by rw [← hAe]; exact Or.inr h
  have hS : va_S A s.heap s.heap [] := va_S.rf
  have hDk := hD
  rcases ix_or 3 ww with hy | ⟨c8, hy⟩
  · have ho : ww.toInt < 0 ∨ 2 < ww.toInt := by rcases ix_none (by decide) hy with q | q; exact Or.inl (by rw [Int32.lt_iff_toInt_lt] at q; exact q); exact Or.inr (by rw [Int32.le_iff_toInt_le, nI_toInt (by decide)] at q; omega)
    refine lv_iload_n hx hb d_D_all_0 rfl (lv_at hl 1 rfl) ?_
    refine lv_tableOut (tgt := 43) hx hb d_D_all_1 ho rfl ?_
    exact xt_thr (Nat.le_of_ble_eq_true rfl) (Nat.le_of_ble_eq_true rfl) (xs_throw (names := xN) (tx := "no such what") hx hb htr (hl.1.trans hml.symm) hlocks hown xL_all hTh (xs_keep.of hS hst) (by decide) (by decide) xL_A (by decide) d_D_all_43 d_D_all_46 d_D_all_47 d_D_all_49 d_D_all_52 hout (Nat.le_of_ble_eq_true rfl) (Nat.le_of_ble_eq_true rfl) (Nat.le_of_ble_eq_true rfl) (Nat.le_of_ble_eq_true rfl) (fun t hold hge hW hI => ⟨Or.inr ⟨qA, _, d, rfl, ⟨by unfold yAll; rw [hy]; first | done | rfl, rfl⟩, hP.kept (fun _ q hk => hold q.1 (hP _ q hk).lt), hI, hS.1⟩, Nat.le_trans hS.1 hge, fun q h1 h2 => (hold q (Nat.lt_of_lt_of_le h1 hS.1)).trans (hS.2.1 q h1 h2)⟩) hS.2.2)
  · obtain ⟨hc8, htc⟩ := ix_some (by decide) hy
    subst htc
    refine lv_iload_n hx hb d_D_all_0 rfl (lv_at hl 1 rfl) ?_
    have h4 : c8 = 0 ∨ c8 = 1 ∨ c8 = 2 := by omega
    rcases h4 with h4 | h4 | h4
    · subst h4
      refine lv_tableIn (tgt := 28) hx hb d_D_all_1 (by decide) (by decide) rfl rfl ?_
      refine lv_aload_n hx hb d_D_all_28 rfl (lv_at hl 0 rfl) ?_
      refine vp_callSi (va_Run.run (va_runV (As := []) (rest := []) ⟨hx, hb, hml, hown, hB⟩ (m_D_openTotal l dC dI k b d) (cwV 0 hB (BIG_V bw_346 bw_347 bw_9 bw_16 bw_348) rfl rfl rfl ⟨rfl, by decide, by decide, by decide +kernel⟩ ⟨Nat.le_of_ble_eq_true rfl, Nat.le_of_ble_eq_true rfl⟩) (dRc_pre _ hP hK) rfl rfl hl.1 rfl (lv_room (Nat.le_of_ble_eq_true rfl)) d_D_all_29 ⟨Nat.le_of_ble_eq_true rfl, Nat.le_of_ble_eq_true rfl⟩)) (fun r7 hr7 => ?_)
      subst hr7
      exact xt_fin (Nat.le_of_ble_eq_true rfl) (Nat.le_of_ble_eq_true rfl) (W.iret (v := nI (yOpen (yT d) 8)) hx hb hr (fun t ht hW => ⟨Or.inl ⟨some (.int (nI (yOpen (yT d) 8))), d, rfl, ⟨_, rfl, by unfold yAll; rw [hy]; first | done | rfl, rfl⟩, by show va_P (dC, dI) vwC _ t.heap; rw [ht]; exact hP⟩, hS.F ht⟩) hS.2.2 d_D_all_32)
    · subst h4
      refine lv_tableIn (tgt := 33) hx hb d_D_all_1 (by decide) (by decide) rfl rfl ?_
      refine lv_aload_n hx hb d_D_all_33 rfl (lv_at hl 0 rfl) ?_
      refine va_get (D := (dC, dI)) (ci := 1) (v := .int (yD d)) (C := R_D) (T := F_D) (N := 5) hx hb hB in_D hown hK hP 0 rfl rfl 3 (by decide) (hB _ bw_59) (fun _ h9 => h9) rfl d_D_all_34 ?_
      exact xt_fin (Nat.le_of_ble_eq_true rfl) (Nat.le_of_ble_eq_true rfl) (W.iret (v := yD d) hx hb hr (fun t ht hW => ⟨Or.inl ⟨some (.int (yD d)), d, rfl, ⟨_, rfl, by unfold yAll; rw [hy]; first | done | rfl, rfl⟩, by show va_P (dC, dI) vwC _ t.heap; rw [ht]; exact hP⟩, hS.F ht⟩) hS.2.2 d_D_all_37)
    · subst h4
      refine lv_tableIn (tgt := 38) hx hb d_D_all_1 (by decide) (by decide) rfl rfl ?_
      refine lv_aload_n hx hb d_D_all_38 rfl (lv_at hl 0 rfl) ?_
      refine va_get (D := (dC, dI)) (ci := 1) (v := .int (yS d)) (C := R_D) (T := F_D) (N := 5) hx hb hB in_D hown hK hP 0 rfl rfl 4 (by decide) (hB _ bw_60) (fun _ h9 => h9) rfl d_D_all_39 ?_
      exact xt_fin (Nat.le_of_ble_eq_true rfl) (Nat.le_of_ble_eq_true rfl) (W.iret (v := yS d) hx hb hr (fun t ht hW => ⟨Or.inl ⟨some (.int (yS d)), d, rfl, ⟨_, rfl, by unfold yAll; rw [hy]; first | done | rfl, rfl⟩, by show va_P (dC, dI) vwC _ t.heap; rw [ht]; exact hP⟩, hS.F ht⟩) hS.2.2 d_D_all_42)
