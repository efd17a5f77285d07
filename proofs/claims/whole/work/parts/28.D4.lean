/-! The desk: done. -/
set_option maxHeartbeats 4000000 in
set_option maxRecDepth 100000 in
theorem m_D_done (l : Launch) (dC : Nat → ClassId) (dI : Nat → Nat → Nat) (k : Nat → ClassId) (b : Nat → Nat) (sz : Nat) (d : xDS) (tt : Int32) (htr : l.stackTraces = false) (hok : dOk d) : xt_Met l y_D_done w_D_done (rmx 8 2 12 125) (dPc dC dI k b sz d [.ref (b 0), .int tt]) (xt_Q (fun v u => ∃ b8, v = some (.int (bI b8)) ∧ ((none, b8), u) = yDone d tt) (fun X u => ((some X, false), u) = yDone d tt) (dB dC dI k b) (va_A (dW k b d) sz)) 2 12 (va_A (dW k b d) sz) := by
  refine xt_ofW (cc := c_D_done) (maxL := 5) (ret := (some .boolean)) (by decide) rfl ?_
  intro p e s m args below meth c s₁ B hml hout hv
  obtain ⟨rfl, hsz, hP, hK, hD0, hTh⟩ := hv
  have hx := B.exec
  have hb := B.bytes
  have hr := B.returns
  have hts := atoms_spec (ws := w_D_done) B.pre
  have hB : ∀ w ∈ BIG, w.before _ s = true := fun w h => hts w (List.mem_cons_of_mem _ h)
  have hown : s.vm.findClass R_D = some m.cls := findClass_of_methodNamed B.named
  have hlocks := B.notSynchronized
  have hl := lv_entry ([.ref (b 0), .int tt]) (n := 5) (Nat.le_of_ble_eq_true rfl)
  rw [lg_entry_eq]
  generalize (lg_sl ([.ref (b 0), .int tt]) ++ List.replicate (5 - (lg_sl ([.ref (b 0), .int tt])).length) Slot.unset).toArray = ls at hl ⊢
  have hl : lv_has ls 5 [(0, .ref (b 0)), (1, .int tt)] := hl
  subst hsz
  have hst := xs_world hP
  have hD := hD0.self (sz := s.heap.size)
  generalize hAe : va_A (dW k b d) s.heap.size = A at hD hst ⊢
  have hA : ∀ q : Nat, s.heap.size ≤ q → A q := fun q h => by rw [← hAe]; exact Or.inr h
  have hS : va_S A s.heap s.heap [] := va_S.rf
  have hDk := hD
  refine lv_aload_n hx hb d_D_done_0 rfl (lv_at hl 0 rfl) ?_
  refine lv_iload_n hx hb d_D_done_1 rfl (lv_at hl 1 rfl) ?_
  have hFc := dW_all hD hS hA
  have hs0 := hS.1
  refine xt_cont (xt_runV (As := [.int tt]) (rest := []) ⟨hx, hb, hml, hown, hB⟩ (m_D_openTransactionOf l dC dI k b _ d tt htr) (cwV 1 hB (BIG_V bw_178 bw_179 bw_4 bw_16 bw_180) rfl rfl rfl ⟨rfl, by decide, by decide, by decide +kernel⟩ ⟨Nat.le_of_ble_eq_true rfl, Nat.le_of_ble_eq_true rfl⟩) (dPc_pre _ hP hK hD hTh (xs_keep.of hS hst)) rfl rfl hl.1 rfl (lv_room (Nat.le_of_ble_eq_true rfl)) d_D_done_2 ⟨Nat.le_of_ble_eq_true rfl, Nat.le_of_ble_eq_true rfl⟩) hS (fun q _ h => hFc q h) hFc ?_ (fun X x8 u t H1 locs ht hvm hw hB1 hI hx1 hz1 hk1 hS => ?_)
  rotate_left
  · exact xt_thrW (Nat.le_of_ble_eq_true rfl) (Nat.le_of_ble_eq_true rfl) (xt_out hout (fun t2 ht2 hW2 => ⟨Or.inr ⟨X, x8, u, rfl, (by obtain ⟨h1 | ⟨j, h1, h2, h3⟩, h4⟩ := hw; exact (by rw [h1.2, h4]; unfold yDone; rw [h1.1]); exact (by rw [h3, h4]; unfold yDone; rw [h1]; dsimp only; rw [if_pos h2])), by show va_P (dC, dI) vwC _ t2.heap; rw [ht2, ← ht]; exact hB1, hI.mv (by rw [ht2, ht]) hvm hW2.alike, Nat.le_trans hs0 hx1⟩, hS.F ht2⟩) hS.2.2 hlocks)
  intro v8 u t H1 locs ht hvm hw hB1 hz1 hk1 hS
  obtain ⟨j, hq, ho, rfl, hu⟩ := hw
  rw [hu] at hB1
  have hP : va_P (dC, dI) vwC (dW k b d) H1 := by rw [← ht]; exact hB1
  clear hFc hB1 hk1 hz1 ht hvm hs0
  generalize H1 = H at hP hS ⊢
  refine W.eq (g2 := F0 m 5 ls [.ref (yA b j 0)]) (rfl) ?_
  obtain ⟨hj, htj⟩ := ix_some (by decide) hq
  obtain ⟨hp1, hp5⟩ := hok j hj ho
  refine lv_astore_n hx hb d_D_done_5 rfl hl (by decide) rfl (fun ls hl => ?_)
  have hl : lv_has ls 5 [(2, .ref (yA b j 0)), (0, .ref (b 0)), (1, .int tt)] := hl
  refine lv_aload_n hx hb d_D_done_6 rfl (lv_at hl 0 rfl) ?_
  refine vp_callSi (va_Run.run (va_runV (As := []) (rest := []) ⟨hx, hb, hml, hown, hB⟩ (m_T_isStale l dC dI k (yA b j) (yT d j)) (cwV 0 hB (BIG_V bw_192 bw_193 bw_194 bw_17 bw_195) rfl rfl rfl ⟨rfl, by decide, by decide, by decide +kernel⟩ ⟨Nat.le_of_ble_eq_true rfl, Nat.le_of_ble_eq_true rfl⟩) (tRc_pre _ (dW_t hj hP) hK) rfl rfl hl.1 rfl (lv_room (Nat.le_of_ble_eq_true rfl)) d_D_done_7 ⟨Nat.le_of_ble_eq_true rfl, Nat.le_of_ble_eq_true rfl⟩)) (fun r7 hr7 => ?_)
  subst hr7
  cases hs : xS (yT d j) with
  | true =>
    refine lv_if_eq hx hb d_D_done_10 rfl (fun h9 => absurd h9 (by decide)) (fun _ => ?_)
    refine lv_aload_n hx hb d_D_done_13 rfl (lv_at hl 1 rfl) ?_
    refine lv_aload_n hx hb d_D_done_14 rfl (lv_at hl 0 rfl) ?_
    have hFc := dW_all hD hS hA
    refine va_callv (va_runV (As := [.ref (yA b j 0)]) (rest := []) ⟨hx, hb, hml, hown, hB⟩ (m_D_endStale l dC dI k b _ d j hj) (cwV 1 hB (BIG_V bw_196 bw_197 bw_5 bw_16 bw_198) rfl rfl rfl ⟨rfl, by decide, by decide, by decide +kernel⟩ ⟨Nat.le_of_ble_eq_true rfl, Nat.le_of_ble_eq_true rfl⟩) (dPc_pre _ hP hK hD hTh (xs_keep.of hS hst)) rfl rfl hl.1 rfl (lv_room (Nat.le_of_ble_eq_true rfl)) d_D_done_15 ⟨Nat.le_of_ble_eq_true rfl, Nat.le_of_ble_eq_true rfl⟩) hS (fun q _ h => hFc q h) hFc (fun u t H1 locs ht hvm hw hB1 hz1 hk1 hS => ?_)
    subst hw
    have hP : va_P (dC, dI) vwC (dW k b (yN d, yC d, va_up (yT d) j (tClose (yT d j)), yD d, (yS d + 1))) H1 := by rw [← ht]; exact hB1
    have hD : va_D A (dW k b (yN d, yC d, va_up (yT d) j (tClose (yT d j)), yD d, (yS d + 1))) := dW_D hDk
    clear hFc hB1 hk1 hz1 ht hvm
    generalize H1 = H at hP hS ⊢
    refine lv_iconst (v := bI false) hx hb d_D_done_18 (by decide) ?_
    exact xt_fin (Nat.le_of_ble_eq_true rfl) (Nat.le_of_ble_eq_true rfl) (W.zret (v := bI false) hx hb hr (bI_nar _) (fun t ht hW => ⟨Or.inl ⟨some (.int (bI false)), (yN d, yC d, va_up (yT d) j (tClose (yT d j)), yD d, (yS d + 1)), rfl, ⟨false, rfl, by unfold yDone; rw [hq]; dsimp only; rw [if_neg (by rw [ho]; decide)]; rw [if_pos hs]; first | done | rfl⟩, by show va_P (dC, dI) vwC _ t.heap; rw [ht]; exact hP⟩, hS.F ht⟩) hS.2.2 d_D_done_19)
  | false =>
    refine lv_if_eq hx hb d_D_done_10 rfl (fun _ => ?_) (fun h9 => absurd (by decide) h9)
    refine lv_aload_n hx hb d_D_done_20 rfl (lv_at hl 0 rfl) ?_
    have hFc := dW_free hj hD hS hA
    refine va_callv (va_runV (As := []) (rest := []) ⟨hx, hb, hml, hown, hB⟩ (m_T_close l dC dI k (yA b j) _ (yT d j)) (cwV 0 hB (BIG_V bw_199 bw_200 bw_201 bw_17 bw_202) rfl rfl rfl ⟨rfl, by decide, by decide, by decide +kernel⟩ ⟨Nat.le_of_ble_eq_true rfl, Nat.le_of_ble_eq_true rfl⟩) (tPc_pre _ (dW_t hj hP) hK (dW_tD hj hD)) rfl rfl hl.1 rfl (lv_room (Nat.le_of_ble_eq_true rfl)) d_D_done_21 ⟨Nat.le_of_ble_eq_true rfl, Nat.le_of_ble_eq_true rfl⟩) hS (fun q _ h => hFc q h) hFc (fun u t H1 locs ht hvm hw hB1 hz1 hk1 hS => ?_)
    subst hw
    have hP : va_P (dC, dI) vwC (dW k b (yN d, yC d, va_up (yT d) j (tClose (yT d j)), yD d, yS d)) H1 := by rw [← ht] at hk1 ⊢; exact dW_join hj hP hD hB1 hk1
    have hD : va_D A (dW k b (yN d, yC d, va_up (yT d) j (tClose (yT d j)), yD d, yS d)) := dW_D hDk
    clear hFc hB1 hk1 hz1 ht hvm
    generalize H1 = H at hP hS ⊢
    obtain ⟨d1, hd1⟩ : ∃ d1, d1 = ySet d j (tClose (yT d j)) := ⟨_, rfl⟩
    have hP : va_P (dC, dI) vwC (dW k b d1) H := by rw [hd1]; exact hP
    have hT1 : yT d1 j = tClose (yT d j) := by rw [hd1]; exact va_up_self _ _ _
    have hc1 : xO (yT d1 j) = false := by rw [hT1]; rfl
    have hp51 : ∀ i, xP (yT (yDoneN j d1 i) j) ≤ 5 := fun i => by rw [done_t hj hc1 i, hT1]; exact hp5
    refine lv_iconst (v := nI 0) hx hb d_D_done_24 (by decide) ?_
    refine lv_istore_n hx hb d_D_done_25 rfl hl (by decide) rfl (fun ls hl => ?_)
    have hl : lv_has ls 5 [(3, .int (nI 0)), (2, .ref (yA b j 0)), (0, .ref (b 0)), (1, .int tt)] := hl
    suffices key : ∀ n i (H : Heap) (locs : List Loc) (ls : Array Slot), i ≤ 32 → 32 - i = n → lv_has ls 5 [(3, .int (nI i)), (2, .ref (yA b j 0)), (0, .ref (b 0)), (1, .int tt)] → va_P (dC, dI) vwC (dW k b (yDoneN j d1 i)) H → va_S A s.heap H locs → W p l e _ s m _ below meth c H locs 2 12 (xt_MQ below (xt_Q (fun v u => ∃ b8, v = some (.int (bI b8)) ∧ ((none, b8), u) = yDone d tt) (fun X u => ((some X, false), u) = yDone d tt) (dB dC dI k b) A) _ s 2 12 A) (F0 m 26 ls []) from key _ 0 _ _ ls (by omega) rfl hl hP hS
    clear hS hP hD hl
    intro n
    induction n with
    | zero =>
      intro i H locs ls hi hn hl hP hS
      have hie : i = 32 := by omega
      subst hie
      obtain ⟨d2, hd2⟩ : ∃ d2, d2 = yDoneN j d1 32 := ⟨_, rfl⟩
      rw [← hd2] at hP
      have hD : va_D A (dW k b d2) := dW_D hDk
      refine lv_iload_n hx hb d_D_done_26 rfl (lv_at hl 0 rfl) ?_
      refine lv_bipush (v := nI 32) hx hb d_D_done_27 (by decide) ?_
      refine lv_icmp_ge hx hb d_D_done_29 rfl (fun _ => ?_) (fun h9 => absurd (nI_le (Nat.le_refl 32) (by omega)) h9)
      refine lv_aload_n hx hb d_D_done_62 rfl (lv_at hl 2 rfl) ?_
      refine lv_dup hx hb d_D_done_63 rfl ?_
      refine va_get (D := (dC, dI)) (ci := 1) (v := .int (yD d2)) (C := R_D) (T := F_D) (N := 5) hx hb hB in_D hown hK hP 0 rfl rfl 3 (by decide) (hB _ bw_59) (fun _ h9 => h9) rfl d_D_done_64 ?_
      refine lv_iconst (v := nI 1) hx hb d_D_done_67 (by decide) ?_
      refine lv_iadd hx hb d_D_done_68 ?_
      refine va_put (D := (dC, dI)) (ci := 1) (v := .int ((yD d2) + (nI 1))) (ty := .int) (C := R_D) (T := F_D) (N := 5) hx hb hB in_D tf_D ty_D nm_D hown hK hP hD hS 0 rfl rfl 3 (by decide) (hB _ bw_59) (fun _ h9 => h9) rfl (by decide +kernel) rfl rfl (Nat.le_of_ble_eq_true rfl) d_D_done_69 (fun H locs hP hD hS => ?_)
      have hP : va_P (dC, dI) vwC (dW k b (yN d2, yC d2, yT d2, ((yD d2) + (nI 1)), yS d2)) H := hP
      have hD : va_D A (dW k b (yN d2, yC d2, yT d2, ((yD d2) + (nI 1)), yS d2)) := dW_D hDk
      refine lv_iconst (v := bI true) hx hb d_D_done_72 (by decide) ?_
      exact xt_fin (Nat.le_of_ble_eq_true rfl) (Nat.le_of_ble_eq_true rfl) (W.zret (v := bI true) hx hb hr (bI_nar _) (fun t ht hW => ⟨Or.inl ⟨some (.int (bI true)), (yN d2, yC d2, yT d2, ((yD d2) + (nI 1)), yS d2), rfl, ⟨true, rfl, by unfold yDone; rw [hq]; dsimp only; rw [if_neg (by rw [ho]; decide)]; rw [if_neg (by rw [hs]; decide)]; rw [← hd1]; rw [← hd2]; first | done | rfl⟩, by show va_P (dC, dI) vwC _ t.heap; rw [ht]; exact hP⟩, hS.F ht⟩) hS.2.2 d_D_done_73)
    | succ n ih =>
      intro i H locs ls hi hn hl hP hS
      have hlt : i < 32 := by omega
      have hD : va_D A (dW k b (yDoneN j d1 i)) := dW_D hDk
      refine lv_iload_n hx hb d_D_done_26 rfl (lv_at hl 0 rfl) ?_
      refine lv_bipush (v := nI 32) hx hb d_D_done_27 (by decide) ?_
      refine lv_icmp_ge hx hb d_D_done_29 rfl (fun h9 => absurd h9 (nI_ge hlt (by omega))) (fun _ => ?_)
      refine lv_aload_n hx hb d_D_done_32 rfl (lv_at hl 1 rfl) ?_
      refine lv_iload_n hx hb d_D_done_33 rfl (lv_at hl 0 rfl) ?_
      refine vp_callSi (va_Run.run (va_runV (As := [.int (nI i)]) (rest := []) ⟨hx, hb, hml, hown, hB⟩ (m_T_lastPartWith l dC dI k (yA b j) (yT (yDoneN j d1 i) j) i hlt (hp51 i)) (cwV 1 hB (BIG_V bw_181 bw_182 bw_183 bw_17 bw_184) rfl rfl rfl ⟨rfl, by decide, by decide, by decide +kernel⟩ ⟨Nat.le_of_ble_eq_true rfl, Nat.le_of_ble_eq_true rfl⟩) (tRc_pre _ (dW_t hj hP) hK) rfl rfl hl.1 rfl (lv_room (Nat.le_of_ble_eq_true rfl)) d_D_done_34 ⟨Nat.le_of_ble_eq_true rfl, Nat.le_of_ble_eq_true rfl⟩)) (fun r7 hr7 => ?_)
      subst hr7
      cases hw7 : lastW (xW (yT (yDoneN j d1 i) j)) i (xP (yT (yDoneN j d1 i) j)) with
      | none =>
        refine W.eq (g2 := F0 m 37 ls [.int (-1)]) (rfl) ?_
        have hz : yDoneN j d1 (i + 1) = (yDoneN j d1 i) := by show (match lastW (xW (yT (yDoneN j d1 i) j)) i (xP (yT (yDoneN j d1 i) j)) with | none => _ | some p => _) = _; rw [hw7]
        refine lv_istore hx hb d_D_done_37 hl (by decide) rfl (fun ls hl => ?_)
        have hl : lv_has ls 5 [(4, .int (-1)), (3, .int (nI i)), (2, .ref (yA b j 0)), (0, .ref (b 0)), (1, .int tt)] := hl
        refine lv_iload hx hb d_D_done_39 (lv_at hl 0 rfl) ?_
        refine lv_if_lt hx hb d_D_done_41 rfl (fun _ => ?_) (fun h9 => absurd (by decide) h9)
        refine lv_iinc (k := 1) (v := nI (i + 1)) hx hb d_D_done_56 hl rfl (nI_1 i) (by decide) rfl (fun ls hl => ?_)
        have hl : lv_has ls 5 [(3, .int (nI (i + 1))), (4, .int (-1)), (2, .ref (yA b j 0)), (0, .ref (b 0)), (1, .int tt)] := hl
        refine lv_goto hx hb d_D_done_59 rfl ?_
        exact ih (i + 1) H _ ls (by omega) (by omega) ⟨hl.1, hl.2.1, fun q hq => hl.2.2 q (by simp only [List.mem_cons, List.not_mem_nil, or_false] at hq ⊢; rcases hq with h | h | h | h <;> simp [h])⟩ (by rw [hz]; exact hP) hS
      | some p8 =>
        refine W.eq (g2 := F0 m 37 ls [.int (nI p8)]) (rfl) ?_
        have hp8 := lastW_lt hw7
        have hp9 := hp51 i
        have hz : yDoneN j d1 (i + 1) = yChange (yDoneN j d1 i) i (xV (yT (yDoneN j d1 i) j) p8 i) := by show (match lastW (xW (yT (yDoneN j d1 i) j)) i (xP (yT (yDoneN j d1 i) j)) with | none => _ | some p => _) = _; rw [hw7]
        refine lv_istore hx hb d_D_done_37 hl (by decide) rfl (fun ls hl => ?_)
        have hl : lv_has ls 5 [(4, .int (nI p8)), (3, .int (nI i)), (2, .ref (yA b j 0)), (0, .ref (b 0)), (1, .int tt)] := hl
        refine lv_iload hx hb d_D_done_39 (lv_at hl 0 rfl) ?_
        refine lv_if_lt hx hb d_D_done_41 rfl (fun h9 => absurd h9 (nI_pos (by omega))) (fun _ => ?_)
        refine lv_aload_n hx hb d_D_done_44 rfl (lv_at hl 3 rfl) ?_
        refine lv_iload_n hx hb d_D_done_45 rfl (lv_at hl 1 rfl) ?_
        refine lv_aload_n hx hb d_D_done_46 rfl (lv_at hl 2 rfl) ?_
        refine lv_iload hx hb d_D_done_47 (lv_at hl 0 rfl) ?_
        refine lv_iload_n hx hb d_D_done_49 rfl (lv_at hl 1 rfl) ?_
        refine vp_callSl (va_Run.run (va_runV (As := [.int (nI p8), .int (nI i)]) (rest := [.int (nI i), .ref (b 0)]) ⟨hx, hb, hml, hown, hB⟩ (m_T_writtenIn l dC dI k (yA b j) (yT (yDoneN j d1 i) j) p8 i (by omega) hlt) (cwV 2 hB (BIG_V bw_188 bw_189 bw_190 bw_17 bw_191) rfl rfl rfl ⟨rfl, by decide, by decide, by decide +kernel⟩ ⟨Nat.le_of_ble_eq_true rfl, Nat.le_of_ble_eq_true rfl⟩) (tRc_pre _ (dW_t hj hP) hK) rfl rfl hl.1 rfl (lv_room (Nat.le_of_ble_eq_true rfl)) d_D_done_50 ⟨Nat.le_of_ble_eq_true rfl, Nat.le_of_ble_eq_true rfl⟩)) (fun r7 hr7 => ?_)
        subst hr7
        have hFc := dW_all hD hS hA
        refine va_callv (va_runV (As := [.int (nI i), .long (xV (yT (yDoneN j d1 i) j) p8 i)]) (rest := []) ⟨hx, hb, hml, hown, hB⟩ (m_D_change l dC dI k b _ (yDoneN j d1 i) i (xV (yT (yDoneN j d1 i) j) p8 i) hlt) (cwV 2 hB (BIG_V bw_283 bw_284 bw_8 bw_16 bw_285) rfl rfl rfl ⟨rfl, by decide, by decide, by decide +kernel⟩ ⟨Nat.le_of_ble_eq_true rfl, Nat.le_of_ble_eq_true rfl⟩) (dPc_pre _ hP hK hD hTh (xs_keep.of hS hst)) rfl rfl hl.1 rfl (lv_room (Nat.le_of_ble_eq_true rfl)) d_D_done_53 ⟨Nat.le_of_ble_eq_true rfl, Nat.le_of_ble_eq_true rfl⟩) hS (fun q _ h => hFc q h) hFc (fun u t H1 locs ht hvm hw hB1 hz1 hk1 hS => ?_)
        subst hw
        have hP : va_P (dC, dI) vwC (dW k b (yChange (yDoneN j d1 i) i (xV (yT (yDoneN j d1 i) j) p8 i))) H1 := by rw [← ht]; exact hB1
        have hD : va_D A (dW k b (yChange (yDoneN j d1 i) i (xV (yT (yDoneN j d1 i) j) p8 i))) := dW_D hDk
        clear hFc hB1 hk1 hz1 ht hvm
        generalize H1 = H at hP hS ⊢
        refine lv_iinc (k := 1) (v := nI (i + 1)) hx hb d_D_done_56 hl rfl (nI_1 i) (by decide) rfl (fun ls hl => ?_)
        have hl : lv_has ls 5 [(3, .int (nI (i + 1))), (4, .int (nI p8)), (2, .ref (yA b j 0)), (0, .ref (b 0)), (1, .int tt)] := hl
        refine lv_goto hx hb d_D_done_59 rfl ?_
        exact ih (i + 1) H _ ls (by omega) (by omega) ⟨hl.1, hl.2.1, fun q hq => hl.2.2 q (by simp only [List.mem_cons, List.not_mem_nil, or_false] at hq ⊢; rcases hq with h | h | h | h <;> simp [h])⟩ (by rw [hz]; exact hP) hS
