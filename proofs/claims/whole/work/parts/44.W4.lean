/-! The law: an arm a call. -/
set_option maxHeartbeats 4000000 in
set_option maxRecDepth 100000 in
theorem arm_10 {p : Program} {e : Env} {s : State} {m : MethodId} {below : List Frame} {meth : Method} {c : Code} {Q : State → Prop} (l : Launch) {scr L : Nat} {xs : Nat → Int32} (hx : p.tables.exec = Jvm.exec) (hb : c.code = code) (hml : c.maxLocals = 8) (hown : s.vm.findClass R_L = some m.cls) (hB : ∀ w ∈ BIG, w.before #[Value.ref scr] s = true) (hX : va_X scr L xs s s.heap) (hbl : scr < s.heap.size) {dC : Nat → ClassId} {dI : Nat → Nat → Nat} {k : Nat → ClassId} (hK : va_K (dC, dI) vwC (kT k) s) (hTh : xTh s) (hCt : xCt s) (htr : l.stackTraces = false) {b : Nat → Nat} {o : Nat} {a : Nat → Nat} {d : xDS} {g : Nat → Int64} {r : xRS} {n i : Nat} {H : Heap} {locs : List Loc} {ls : Array Slot} {cells slots : Nat} (hL : L ≤ 2560) (hi : i + 5 ≤ L) (hn : n < 2560) (hce : cells + 5 ≤ 601024) (hsl : slots + 30 ≤ 7293034) (hl : lv_has ls 8 [(4, .int (nI i)), (3, .ref o), (2, .ref (a 0)), (1, .ref (b 0)), (0, .ref scr)]) (hP : va_P (dC, dI) vwC (qW k b o a d g r) H) (hD : va_D (xA s) (qW k b o a d g r)) (hS : va_S (xA s) s.heap H locs) (hSim : Sim (fun _ => n) d r) (kk : ∀ (H : Heap) (locs : List Loc) (ls : Array Slot) (d : xDS) (g : Nat → Int64) (r : xRS), lv_has ls 8 [(4, .int (nI i)), (3, .ref o), (2, .ref (a 0)), (1, .ref (b 0)), (0, .ref scr)] → va_P (dC, dI) vwC (qW k b o a d g r) H → va_D (xA s) (qW k b o a d g r) → va_S (xA s) s.heap H locs → Sim (fun _ => n + 1) d r → W p l e room_1 s m #[Value.ref scr] below meth c H locs (cells + 5) (slots + 30) Q (F0 m 841 ls [])) : W p l e room_1 s m #[Value.ref scr] below meth c H locs cells slots Q (F0 m 661 ls []) := by
  have hDk := hD
  refine lv_aload_n hx hb d_W_661 rfl (lv_at hl 3 rfl) ?_
  refine lv_aload_n hx hb d_W_662 rfl (lv_at hl 4 rfl) ?_
  refine lv_iload hx hb d_W_663 (lv_at hl 0 rfl) ?_
  refine lv_iconst (v := nI 1) hx hb d_W_665 (by decide) ?_
  refine lv_iadd hx hb d_W_666 ?_
  refine W.eq (g2 := F0 m 667 ls [.int (nI (i + 1)), .ref scr, .ref (b 0)]) (by rw [nI_add]) ?_
  refine va_sld hx hb hX hbl (Nat.not_le.mpr hbl) hS (pk_in (i + 1) L (by omega)) d_W_667 ?_
  refine W.eq (g2 := F0 m 668 ls [.int (xs (i + 1)), .ref (b 0)]) (by rw [cl_nI (by omega)]) ?_
  refine lv_aload_n hx hb d_W_668 rfl (lv_at hl 1 rfl) ?_
  have hFc := xq_free (w := lW k b o d g) (va_D_l hD) hS (fun _ h => h)
  refine va_calli (xc_runS (n := 3) (As := [.ref (b 0), .int (xs (i + 1)), .ref o]) (rest := []) ⟨hx, hb, hml, hown, hB⟩ (m_L_changed l dC dI k b o _ d g (xs (i + 1)) htr) (BIG_good bw_313) rfl rfl rfl ⟨Nat.le_of_ble_eq_true rfl, Nat.le_of_ble_eq_true rfl⟩ (hB _ bw_311) (hB _ bw_312) (hB _ bw_15) ⟨by decide, by decide⟩ (by decide +kernel) (lPc_pre _ (va_P_l hP) hK (va_D_l hD) hTh hCt (keep_new hS)) rfl rfl hl.1 rfl (lv_room (Nat.le_of_ble_eq_true rfl)) d_W_669 ⟨by show cells + 5 ≤ 601024; omega, by show slots + 30 ≤ 7293034; omega⟩) hS (fun q _ h => hFc q h) hFc (fun r7 u t H1 locs ht hvm hw hB1 hz1 hk1 hS => ?_)
  obtain ⟨d2, g2⟩ := u
  obtain ⟨hr7, hd2, hval⟩ := hw
  dsimp only at hval
  have hd2 : d2 = d := hd2
  have hB2 : va_P (dC, dI) vwC (lW k b o d2 g2) H1 := by rw [← ht]; exact hB1
  rw [hd2] at hB2
  have hP : va_P (dC, dI) vwC (qW k b o a d g2 r) H1 := xq_l hP hD hB2 hk1
  have hD : va_D (xA s) (qW k b o a d g2 r) := qW_D hDk
  clear hFc hB1 hB2 hk1 hz1 ht hvm
  generalize H1 = H at hP hS ⊢
  subst hr7
  refine W.eq (g2 := F0 m 672 ls [.int (cdOf [qB] (yChd d (xs (i + 1))).1)]) (rfl) ?_
  refine lv_istore hx hb d_W_672 hl (by decide) rfl (fun ls hl => ?_)
  have hl : lv_has ls 8 [(5, .int (cdOf [qB] (yChd d (xs (i + 1))).1)), (4, .int (nI i)), (3, .ref o), (2, .ref (a 0)), (1, .ref (b 0)), (0, .ref scr)] := hl
  refine lv_aload_n hx hb d_W_674 rfl (lv_at hl 3 rfl) ?_
  refine lv_aload_n hx hb d_W_675 rfl (lv_at hl 5 rfl) ?_
  refine lv_iload hx hb d_W_676 (lv_at hl 1 rfl) ?_
  refine lv_iconst (v := nI 1) hx hb d_W_678 (by decide) ?_
  refine lv_iadd hx hb d_W_679 ?_
  refine W.eq (g2 := F0 m 680 ls [.int (nI (i + 1)), .ref scr, .ref (a 0)]) (by rw [nI_add]) ?_
  refine va_sld hx hb hX hbl (Nat.not_le.mpr hbl) hS (pk_in (i + 1) L (by omega)) d_W_680 ?_
  refine W.eq (g2 := F0 m 681 ls [.int (xs (i + 1)), .ref (a 0)]) (by rw [cl_nI (by omega)]) ?_
  have hFc := xq_free (w := mW k a r) (va_D_r hD) hS (fun _ h => h)
  refine va_calli (va_runV (As := [.int (xs (i + 1))]) (rest := []) ⟨hx, hb, hml, hown, hB⟩ (m_M_changed l dC dI k a _ r (xs (i + 1))) (cwV 1 hB (BIG_V bw_449 bw_450 bw_451 bw_18 bw_452) rfl rfl rfl ⟨rfl, by decide, by decide, by decide +kernel⟩ ⟨Nat.le_of_ble_eq_true rfl, Nat.le_of_ble_eq_true rfl⟩) (mPc_pre _ (va_P_r hP) hK (va_D_r hD)) rfl rfl hl.1 rfl (lv_room (Nat.le_of_ble_eq_true rfl)) d_W_681 ⟨by show cells + 5 + 0 ≤ 601024; omega, by show slots + 30 + 0 ≤ 7293034; omega⟩) hS (fun q _ h => hFc q h) hFc (fun r6 u t H1 locs ht hvm hw hB1 hz1 hk1 hS => ?_)
  have h6 : r6 = (zChd r (xs (i + 1))).1 := congrArg Prod.fst hw
  have hu : u = (zChd r (xs (i + 1))).2 := congrArg Prod.snd hw
  have hB2 : va_P (dC, dI) vwC (mW k a u) H1 := by rw [← ht]; exact hB1
  rw [hu] at hB2
  have hP : va_P (dC, dI) vwC (qW k b o a d g2 ((zChd r (xs (i + 1))).2)) H1 := xq_r hP hD hB2 hk1
  have hD : va_D (xA s) (qW k b o a d g2 ((zChd r (xs (i + 1))).2)) := qW_D hDk
  clear hFc hB1 hB2 hk1 hz1 ht hvm
  generalize H1 = H at hP hS ⊢
  subst h6
  refine W.eq (g2 := F0 m 684 ls [.int ((zChd r (xs (i + 1))).1)]) (rfl) ?_
  refine lv_istore hx hb d_W_684 hl (by decide) rfl (fun ls hl => ?_)
  have hl : lv_has ls 8 [(6, .int ((zChd r (xs (i + 1))).1)), (5, .int (cdOf [qB] (yChd d (xs (i + 1))).1)), (4, .int (nI i)), (3, .ref o), (2, .ref (a 0)), (1, .ref (b 0)), (0, .ref scr)] := hl
  refine lv_aload_n hx hb d_W_686 rfl (lv_at hl 4 rfl) ?_
  refine vp_callSi (va_Run.run (va_runV (As := []) (rest := []) ⟨hx, hb, hml, hown, hB⟩ (m_M_thrown l dC dI k a ((zChd r (xs (i + 1))).2)) (cwV 0 hB (BIG_V bw_379 bw_380 bw_381 bw_18 bw_382) rfl rfl rfl ⟨rfl, by decide, by decide, by decide +kernel⟩ ⟨Nat.le_of_ble_eq_true rfl, Nat.le_of_ble_eq_true rfl⟩) (mRc_pre _ (va_P_r hP) hK) rfl rfl hl.1 rfl (lv_room (Nat.le_of_ble_eq_true rfl)) d_W_687 ⟨by show cells + 5 + 0 + 0 ≤ 601024; omega, by show slots + 30 + 0 + 0 ≤ 7293034; omega⟩)) (fun r7 hr7 => ?_)
  subst hr7
  refine W.eq (g2 := F0 m 690 ls [.int (zE ((zChd r (xs (i + 1))).2))]) (rfl) ?_
  have hsim := sim_chd hSim (xs (i + 1))
  refine lv_iload hx hb d_W_690 (lv_at hl 1 rfl) ?_
  refine lv_icmp_eq hx hb d_W_692 rfl (fun _ => ?_) (fun h9 => absurd (hsim.1) h9)
  refine lv_iload hx hb d_W_697 (lv_at hl 1 rfl) ?_
  cases he : (yChd d (xs (i + 1))).1 with
  | some X =>
    refine lv_if_ne hx hb d_W_699 rfl (fun _ => ?_) (fun h9 => absurd h9 (cd_ne (by decide)))
    refine lv_goto hx hb d_W_714 rfl ?_
    exact kk H _ ls _ _ _ ⟨hl.1, hl.2.1, fun q hq => hl.2.2 q (by simp only [List.mem_cons, List.not_mem_nil, or_false] at hq ⊢; rcases hq with h | h | h | h | h <;> simp [h])⟩ hP hD hS (Sim.wide hsim.2.1 (fun _ _ => Nat.le_succ _))
  | none =>
    refine lv_if_ne hx hb d_W_699 rfl (fun h9 => absurd h9 (fun q => q rfl)) (fun _ => ?_)
    refine lv_aload_n hx hb d_W_702 rfl (lv_at hl 3 rfl) ?_
    refine lv_iconst (v := nI 0) hx hb d_W_703 (by decide) ?_
    refine va_lald hx hb hK hP 0 1 rfl rfl (pk_in 0 1 (by omega)) d_W_704 ?_
    refine W.eq (g2 := F0 m 705 ls [.long (g2 0)]) (by rw [cl_nI (by omega)]) ?_
    refine lv_iload hx hb d_W_705 (lv_at hl 0 rfl) ?_
    refine lv_i2l hx hb d_W_707 rfl ?_
    refine W.lcmp hx hb d_W_708 ?_
    refine lv_if_eq hx hb d_W_709 rfl (fun _ => ?_) (fun h9 => absurd (by rw [hval he, hsim.2.2 he]; exact lg_cmp_self _) h9)
    refine lv_goto hx hb d_W_714 rfl ?_
    exact kk H _ ls _ _ _ ⟨hl.1, hl.2.1, fun q hq => hl.2.2 q (by simp only [List.mem_cons, List.not_mem_nil, or_false] at hq ⊢; rcases hq with h | h | h | h | h <;> simp [h])⟩ hP hD hS (Sim.wide hsim.2.1 (fun _ _ => Nat.le_succ _))
set_option maxHeartbeats 4000000 in
set_option maxRecDepth 100000 in
theorem arm_11 {p : Program} {e : Env} {s : State} {m : MethodId} {below : List Frame} {meth : Method} {c : Code} {Q : State → Prop} (l : Launch) {scr L : Nat} {xs : Nat → Int32} (hx : p.tables.exec = Jvm.exec) (hb : c.code = code) (hml : c.maxLocals = 8) (hown : s.vm.findClass R_L = some m.cls) (hB : ∀ w ∈ BIG, w.before #[Value.ref scr] s = true) (hX : va_X scr L xs s s.heap) (hbl : scr < s.heap.size) {dC : Nat → ClassId} {dI : Nat → Nat → Nat} {k : Nat → ClassId} (hK : va_K (dC, dI) vwC (kT k) s) (hTh : xTh s) (hCt : xCt s) (htr : l.stackTraces = false) {b : Nat → Nat} {o : Nat} {a : Nat → Nat} {d : xDS} {g : Nat → Int64} {r : xRS} {n i : Nat} {H : Heap} {locs : List Loc} {ls : Array Slot} {cells slots : Nat} (hL : L ≤ 2560) (hi : i + 5 ≤ L) (hn : n < 2560) (hce : cells + 5 ≤ 601024) (hsl : slots + 30 ≤ 7293034) (hl : lv_has ls 8 [(4, .int (nI i)), (3, .ref o), (2, .ref (a 0)), (1, .ref (b 0)), (0, .ref scr)]) (hP : va_P (dC, dI) vwC (qW k b o a d g r) H) (hD : va_D (xA s) (qW k b o a d g r)) (hS : va_S (xA s) s.heap H locs) (hSim : Sim (fun _ => n) d r) (kk : ∀ (H : Heap) (locs : List Loc) (ls : Array Slot) (d : xDS) (g : Nat → Int64) (r : xRS), lv_has ls 8 [(4, .int (nI i)), (3, .ref o), (2, .ref (a 0)), (1, .ref (b 0)), (0, .ref scr)] → va_P (dC, dI) vwC (qW k b o a d g r) H → va_D (xA s) (qW k b o a d g r) → va_S (xA s) s.heap H locs → Sim (fun _ => n + 1) d r → W p l e room_1 s m #[Value.ref scr] below meth c H locs (cells + 5) (slots + 30) Q (F0 m 841 ls [])) : W p l e room_1 s m #[Value.ref scr] below meth c H locs cells slots Q (F0 m 717 ls []) := by
  have hDk := hD
  refine lv_aload_n hx hb d_W_717 rfl (lv_at hl 3 rfl) ?_
  refine lv_aload_n hx hb d_W_718 rfl (lv_at hl 4 rfl) ?_
  refine lv_iload hx hb d_W_719 (lv_at hl 0 rfl) ?_
  refine lv_iconst (v := nI 1) hx hb d_W_721 (by decide) ?_
  refine lv_iadd hx hb d_W_722 ?_
  refine W.eq (g2 := F0 m 723 ls [.int (nI (i + 1)), .ref scr, .ref (b 0)]) (by rw [nI_add]) ?_
  refine va_sld hx hb hX hbl (Nat.not_le.mpr hbl) hS (pk_in (i + 1) L (by omega)) d_W_723 ?_
  refine W.eq (g2 := F0 m 724 ls [.int (xs (i + 1)), .ref (b 0)]) (by rw [cl_nI (by omega)]) ?_
  refine lv_aload_n hx hb d_W_724 rfl (lv_at hl 4 rfl) ?_
  refine lv_iload hx hb d_W_725 (lv_at hl 0 rfl) ?_
  refine lv_iconst (v := nI 2) hx hb d_W_727 (by decide) ?_
  refine lv_iadd hx hb d_W_728 ?_
  refine W.eq (g2 := F0 m 729 ls [.int (nI (i + 2)), .ref scr, .int (xs (i + 1)), .ref (b 0)]) (by rw [nI_add]) ?_
  refine va_sld hx hb hX hbl (Nat.not_le.mpr hbl) hS (pk_in (i + 2) L (by omega)) d_W_729 ?_
  refine W.eq (g2 := F0 m 730 ls [.int (xs (i + 2)), .int (xs (i + 1)), .ref (b 0)]) (by rw [cl_nI (by omega)]) ?_
  refine lv_aload_n hx hb d_W_730 rfl (lv_at hl 1 rfl) ?_
  have hFc := xq_free (w := lW k b o d g) (va_D_l hD) hS (fun _ h => h)
  refine va_calli (xc_runS (n := 4) (As := [.ref (b 0), .int (xs (i + 1)), .int (xs (i + 2)), .ref o]) (rest := []) ⟨hx, hb, hml, hown, hB⟩ (m_L_count l dC dI k b o _ d g (xs (i + 1)) (xs (i + 2)) htr (sim_dOk hSim)) (BIG_good bw_320) rfl rfl rfl ⟨Nat.le_of_ble_eq_true rfl, Nat.le_of_ble_eq_true rfl⟩ (hB _ bw_318) (hB _ bw_319) (hB _ bw_15) ⟨by decide, by decide⟩ (by decide +kernel) (lPc_pre _ (va_P_l hP) hK (va_D_l hD) hTh hCt (keep_new hS)) rfl rfl hl.1 rfl (lv_room (Nat.le_of_ble_eq_true rfl)) d_W_731 ⟨by show cells + 5 ≤ 601024; omega, by show slots + 30 ≤ 7293034; omega⟩) hS (fun q _ h => hFc q h) hFc (fun r7 u t H1 locs ht hvm hw hB1 hz1 hk1 hS => ?_)
  obtain ⟨d2, g2⟩ := u
  obtain ⟨hr7, hd2, hval⟩ := hw
  dsimp only at hval
  have hd2 : d2 = d := hd2
  have hB2 : va_P (dC, dI) vwC (lW k b o d2 g2) H1 := by rw [← ht]; exact hB1
  rw [hd2] at hB2
  have hP : va_P (dC, dI) vwC (qW k b o a d g2 r) H1 := xq_l hP hD hB2 hk1
  have hD : va_D (xA s) (qW k b o a d g2 r) := qW_D hDk
  clear hFc hB1 hB2 hk1 hz1 ht hvm
  generalize H1 = H at hP hS ⊢
  subst hr7
  refine W.eq (g2 := F0 m 734 ls [.int (cdOf [qA, qS] (yCount d (xs (i + 1)) (xs (i + 2))).1)]) (rfl) ?_
  refine lv_istore hx hb d_W_734 hl (by decide) rfl (fun ls hl => ?_)
  have hl : lv_has ls 8 [(5, .int (cdOf [qA, qS] (yCount d (xs (i + 1)) (xs (i + 2))).1)), (4, .int (nI i)), (3, .ref o), (2, .ref (a 0)), (1, .ref (b 0)), (0, .ref scr)] := hl
  refine lv_aload_n hx hb d_W_736 rfl (lv_at hl 3 rfl) ?_
  refine lv_aload_n hx hb d_W_737 rfl (lv_at hl 5 rfl) ?_
  refine lv_iload hx hb d_W_738 (lv_at hl 1 rfl) ?_
  refine lv_iconst (v := nI 1) hx hb d_W_740 (by decide) ?_
  refine lv_iadd hx hb d_W_741 ?_
  refine W.eq (g2 := F0 m 742 ls [.int (nI (i + 1)), .ref scr, .ref (a 0)]) (by rw [nI_add]) ?_
  refine va_sld hx hb hX hbl (Nat.not_le.mpr hbl) hS (pk_in (i + 1) L (by omega)) d_W_742 ?_
  refine W.eq (g2 := F0 m 743 ls [.int (xs (i + 1)), .ref (a 0)]) (by rw [cl_nI (by omega)]) ?_
  refine lv_aload_n hx hb d_W_743 rfl (lv_at hl 5 rfl) ?_
  refine lv_iload hx hb d_W_744 (lv_at hl 1 rfl) ?_
  refine lv_iconst (v := nI 2) hx hb d_W_746 (by decide) ?_
  refine lv_iadd hx hb d_W_747 ?_
  refine W.eq (g2 := F0 m 748 ls [.int (nI (i + 2)), .ref scr, .int (xs (i + 1)), .ref (a 0)]) (by rw [nI_add]) ?_
  refine va_sld hx hb hX hbl (Nat.not_le.mpr hbl) hS (pk_in (i + 2) L (by omega)) d_W_748 ?_
  refine W.eq (g2 := F0 m 749 ls [.int (xs (i + 2)), .int (xs (i + 1)), .ref (a 0)]) (by rw [cl_nI (by omega)]) ?_
  have hFc := xq_free (w := mW k a r) (va_D_r hD) hS (fun _ h => h)
  refine va_calli (va_runV (As := [.int (xs (i + 1)), .int (xs (i + 2))]) (rest := []) ⟨hx, hb, hml, hown, hB⟩ (m_M_count l dC dI k a _ r (xs (i + 1)) (xs (i + 2)) (sim_mOk hSim)) (cwV 2 hB (BIG_V bw_453 bw_454 bw_455 bw_18 bw_456) rfl rfl rfl ⟨rfl, by decide, by decide, by decide +kernel⟩ ⟨Nat.le_of_ble_eq_true rfl, Nat.le_of_ble_eq_true rfl⟩) (mPc_pre _ (va_P_r hP) hK (va_D_r hD)) rfl rfl hl.1 rfl (lv_room (Nat.le_of_ble_eq_true rfl)) d_W_749 ⟨by show cells + 5 + 0 ≤ 601024; omega, by show slots + 30 + 0 ≤ 7293034; omega⟩) hS (fun q _ h => hFc q h) hFc (fun r6 u t H1 locs ht hvm hw hB1 hz1 hk1 hS => ?_)
  have h6 : r6 = (zCount r (xs (i + 1)) (xs (i + 2))).1 := congrArg Prod.fst hw
  have hu : u = (zCount r (xs (i + 1)) (xs (i + 2))).2 := congrArg Prod.snd hw
  have hB2 : va_P (dC, dI) vwC (mW k a u) H1 := by rw [← ht]; exact hB1
  rw [hu] at hB2
  have hP : va_P (dC, dI) vwC (qW k b o a d g2 ((zCount r (xs (i + 1)) (xs (i + 2))).2)) H1 := xq_r hP hD hB2 hk1
  have hD : va_D (xA s) (qW k b o a d g2 ((zCount r (xs (i + 1)) (xs (i + 2))).2)) := qW_D hDk
  clear hFc hB1 hB2 hk1 hz1 ht hvm
  generalize H1 = H at hP hS ⊢
  subst h6
  refine W.eq (g2 := F0 m 752 ls [.int ((zCount r (xs (i + 1)) (xs (i + 2))).1)]) (rfl) ?_
  refine lv_istore hx hb d_W_752 hl (by decide) rfl (fun ls hl => ?_)
  have hl : lv_has ls 8 [(6, .int ((zCount r (xs (i + 1)) (xs (i + 2))).1)), (5, .int (cdOf [qA, qS] (yCount d (xs (i + 1)) (xs (i + 2))).1)), (4, .int (nI i)), (3, .ref o), (2, .ref (a 0)), (1, .ref (b 0)), (0, .ref scr)] := hl
  refine lv_aload_n hx hb d_W_754 rfl (lv_at hl 4 rfl) ?_
  refine vp_callSi (va_Run.run (va_runV (As := []) (rest := []) ⟨hx, hb, hml, hown, hB⟩ (m_M_thrown l dC dI k a ((zCount r (xs (i + 1)) (xs (i + 2))).2)) (cwV 0 hB (BIG_V bw_379 bw_380 bw_381 bw_18 bw_382) rfl rfl rfl ⟨rfl, by decide, by decide, by decide +kernel⟩ ⟨Nat.le_of_ble_eq_true rfl, Nat.le_of_ble_eq_true rfl⟩) (mRc_pre _ (va_P_r hP) hK) rfl rfl hl.1 rfl (lv_room (Nat.le_of_ble_eq_true rfl)) d_W_755 ⟨by show cells + 5 + 0 + 0 ≤ 601024; omega, by show slots + 30 + 0 + 0 ≤ 7293034; omega⟩)) (fun r7 hr7 => ?_)
  subst hr7
  refine W.eq (g2 := F0 m 758 ls [.int (zE ((zCount r (xs (i + 1)) (xs (i + 2))).2))]) (rfl) ?_
  have hsim := sim_count hSim (xs (i + 1)) (xs (i + 2))
  refine lv_iload hx hb d_W_758 (lv_at hl 1 rfl) ?_
  refine lv_icmp_eq hx hb d_W_760 rfl (fun _ => ?_) (fun h9 => absurd (hsim.1) h9)
  refine lv_iload hx hb d_W_765 (lv_at hl 1 rfl) ?_
  cases he : (yCount d (xs (i + 1)) (xs (i + 2))).1 with
  | some X =>
    refine lv_if_ne hx hb d_W_767 rfl (fun _ => ?_) (fun h9 => absurd h9 (cd_ne (by decide)))
    refine lv_goto hx hb d_W_782 rfl ?_
    exact kk H _ ls _ _ _ ⟨hl.1, hl.2.1, fun q hq => hl.2.2 q (by simp only [List.mem_cons, List.not_mem_nil, or_false] at hq ⊢; rcases hq with h | h | h | h | h <;> simp [h])⟩ hP hD hS (Sim.wide hsim.2.1 (fun _ _ => Nat.le_succ _))
  | none =>
    refine lv_if_ne hx hb d_W_767 rfl (fun h9 => absurd h9 (fun q => q rfl)) (fun _ => ?_)
    refine lv_aload_n hx hb d_W_770 rfl (lv_at hl 3 rfl) ?_
    refine lv_iconst (v := nI 0) hx hb d_W_771 (by decide) ?_
    refine va_lald hx hb hK hP 0 1 rfl rfl (pk_in 0 1 (by omega)) d_W_772 ?_
    refine W.eq (g2 := F0 m 773 ls [.long (g2 0)]) (by rw [cl_nI (by omega)]) ?_
    refine lv_iload hx hb d_W_773 (lv_at hl 0 rfl) ?_
    refine lv_i2l hx hb d_W_775 rfl ?_
    refine W.lcmp hx hb d_W_776 ?_
    refine lv_if_eq hx hb d_W_777 rfl (fun _ => ?_) (fun h9 => absurd (by rw [hval he, hsim.2.2 he]; exact lg_cmp_self _) h9)
    refine lv_goto hx hb d_W_782 rfl ?_
    exact kk H _ ls _ _ _ ⟨hl.1, hl.2.1, fun q hq => hl.2.2 q (by simp only [List.mem_cons, List.not_mem_nil, or_false] at hq ⊢; rcases hq with h | h | h | h | h <;> simp [h])⟩ hP hD hS (Sim.wide hsim.2.1 (fun _ _ => Nat.le_succ _))
set_option maxHeartbeats 4000000 in
set_option maxRecDepth 100000 in
theorem arm_12 {p : Program} {e : Env} {s : State} {m : MethodId} {below : List Frame} {meth : Method} {c : Code} {Q : State → Prop} (l : Launch) {scr L : Nat} {xs : Nat → Int32} (hx : p.tables.exec = Jvm.exec) (hb : c.code = code) (hml : c.maxLocals = 8) (hown : s.vm.findClass R_L = some m.cls) (hB : ∀ w ∈ BIG, w.before #[Value.ref scr] s = true) (hX : va_X scr L xs s s.heap) (hbl : scr < s.heap.size) {dC : Nat → ClassId} {dI : Nat → Nat → Nat} {k : Nat → ClassId} (hK : va_K (dC, dI) vwC (kT k) s) (hTh : xTh s) (hCt : xCt s) (htr : l.stackTraces = false) {b : Nat → Nat} {o : Nat} {a : Nat → Nat} {d : xDS} {g : Nat → Int64} {r : xRS} {n i : Nat} {H : Heap} {locs : List Loc} {ls : Array Slot} {cells slots : Nat} (hL : L ≤ 2560) (hi : i + 5 ≤ L) (hn : n < 2560) (hce : cells + 5 ≤ 601024) (hsl : slots + 30 ≤ 7293034) (hl : lv_has ls 8 [(4, .int (nI i)), (3, .ref o), (2, .ref (a 0)), (1, .ref (b 0)), (0, .ref scr)]) (hP : va_P (dC, dI) vwC (qW k b o a d g r) H) (hD : va_D (xA s) (qW k b o a d g r)) (hS : va_S (xA s) s.heap H locs) (hSim : Sim (fun _ => n) d r) (kk : ∀ (H : Heap) (locs : List Loc) (ls : Array Slot) (d : xDS) (g : Nat → Int64) (r : xRS), lv_has ls 8 [(4, .int (nI i)), (3, .ref o), (2, .ref (a 0)), (1, .ref (b 0)), (0, .ref scr)] → va_P (dC, dI) vwC (qW k b o a d g r) H → va_D (xA s) (qW k b o a d g r) → va_S (xA s) s.heap H locs → Sim (fun _ => n + 1) d r → W p l e room_1 s m #[Value.ref scr] below meth c H locs (cells + 5) (slots + 30) Q (F0 m 841 ls [])) : W p l e room_1 s m #[Value.ref scr] below meth c H locs cells slots Q (F0 m 785 ls []) := by
  have hDk := hD
  refine lv_aload_n hx hb d_W_785 rfl (lv_at hl 3 rfl) ?_
  refine lv_aload_n hx hb d_W_786 rfl (lv_at hl 4 rfl) ?_
  refine lv_iload hx hb d_W_787 (lv_at hl 0 rfl) ?_
  refine lv_iconst (v := nI 1) hx hb d_W_789 (by decide) ?_
  refine lv_iadd hx hb d_W_790 ?_
  refine W.eq (g2 := F0 m 791 ls [.int (nI (i + 1)), .ref scr, .ref (b 0)]) (by rw [nI_add]) ?_
  refine va_sld hx hb hX hbl (Nat.not_le.mpr hbl) hS (pk_in (i + 1) L (by omega)) d_W_791 ?_
  refine W.eq (g2 := F0 m 792 ls [.int (xs (i + 1)), .ref (b 0)]) (by rw [cl_nI (by omega)]) ?_
  refine lv_aload_n hx hb d_W_792 rfl (lv_at hl 1 rfl) ?_
  have hFc := xq_free (w := lW k b o d g) (va_D_l hD) hS (fun _ h => h)
  refine va_calli (xc_runS (n := 3) (As := [.ref (b 0), .int (xs (i + 1)), .ref o]) (rest := []) ⟨hx, hb, hml, hown, hB⟩ (m_L_all l dC dI k b o _ d g (xs (i + 1)) htr) (BIG_good bw_341) rfl rfl rfl ⟨Nat.le_of_ble_eq_true rfl, Nat.le_of_ble_eq_true rfl⟩ (hB _ bw_339) (hB _ bw_340) (hB _ bw_15) ⟨by decide, by decide⟩ (by decide +kernel) (lPc_pre _ (va_P_l hP) hK (va_D_l hD) hTh hCt (keep_new hS)) rfl rfl hl.1 rfl (lv_room (Nat.le_of_ble_eq_true rfl)) d_W_793 ⟨by show cells + 5 ≤ 601024; omega, by show slots + 30 ≤ 7293034; omega⟩) hS (fun q _ h => hFc q h) hFc (fun r7 u t H1 locs ht hvm hw hB1 hz1 hk1 hS => ?_)
  obtain ⟨d2, g2⟩ := u
  obtain ⟨hr7, hd2, hval⟩ := hw
  dsimp only at hval
  have hd2 : d2 = d := hd2
  have hB2 : va_P (dC, dI) vwC (lW k b o d2 g2) H1 := by rw [← ht]; exact hB1
  rw [hd2] at hB2
  have hP : va_P (dC, dI) vwC (qW k b o a d g2 r) H1 := xq_l hP hD hB2 hk1
  have hD : va_D (xA s) (qW k b o a d g2 r) := qW_D hDk
  clear hFc hB1 hB2 hk1 hz1 ht hvm
  generalize H1 = H at hP hS ⊢
  subst hr7
  refine W.eq (g2 := F0 m 796 ls [.int (cdOf [qA] (yAll d (xs (i + 1))).1)]) (rfl) ?_
  refine lv_istore hx hb d_W_796 hl (by decide) rfl (fun ls hl => ?_)
  have hl : lv_has ls 8 [(5, .int (cdOf [qA] (yAll d (xs (i + 1))).1)), (4, .int (nI i)), (3, .ref o), (2, .ref (a 0)), (1, .ref (b 0)), (0, .ref scr)] := hl
  refine lv_aload_n hx hb d_W_798 rfl (lv_at hl 3 rfl) ?_
  refine lv_aload_n hx hb d_W_799 rfl (lv_at hl 5 rfl) ?_
  refine lv_iload hx hb d_W_800 (lv_at hl 1 rfl) ?_
  refine lv_iconst (v := nI 1) hx hb d_W_802 (by decide) ?_
  refine lv_iadd hx hb d_W_803 ?_
  refine W.eq (g2 := F0 m 804 ls [.int (nI (i + 1)), .ref scr, .ref (a 0)]) (by rw [nI_add]) ?_
  refine va_sld hx hb hX hbl (Nat.not_le.mpr hbl) hS (pk_in (i + 1) L (by omega)) d_W_804 ?_
  refine W.eq (g2 := F0 m 805 ls [.int (xs (i + 1)), .ref (a 0)]) (by rw [cl_nI (by omega)]) ?_
  have hFc := xq_free (w := mW k a r) (va_D_r hD) hS (fun _ h => h)
  refine va_calli (va_runV (As := [.int (xs (i + 1))]) (rest := []) ⟨hx, hb, hml, hown, hB⟩ (m_M_all l dC dI k a _ r (xs (i + 1))) (cwV 1 hB (BIG_V bw_458 bw_459 bw_460 bw_18 bw_461) rfl rfl rfl ⟨rfl, by decide, by decide, by decide +kernel⟩ ⟨Nat.le_of_ble_eq_true rfl, Nat.le_of_ble_eq_true rfl⟩) (mPc_pre _ (va_P_r hP) hK (va_D_r hD)) rfl rfl hl.1 rfl (lv_room (Nat.le_of_ble_eq_true rfl)) d_W_805 ⟨by show cells + 5 + 0 ≤ 601024; omega, by show slots + 30 + 0 ≤ 7293034; omega⟩) hS (fun q _ h => hFc q h) hFc (fun r6 u t H1 locs ht hvm hw hB1 hz1 hk1 hS => ?_)
  have h6 : r6 = (zAll r (xs (i + 1))).1 := congrArg Prod.fst hw
  have hu : u = (zAll r (xs (i + 1))).2 := congrArg Prod.snd hw
  have hB2 : va_P (dC, dI) vwC (mW k a u) H1 := by rw [← ht]; exact hB1
  rw [hu] at hB2
  have hP : va_P (dC, dI) vwC (qW k b o a d g2 ((zAll r (xs (i + 1))).2)) H1 := xq_r hP hD hB2 hk1
  have hD : va_D (xA s) (qW k b o a d g2 ((zAll r (xs (i + 1))).2)) := qW_D hDk
  clear hFc hB1 hB2 hk1 hz1 ht hvm
  generalize H1 = H at hP hS ⊢
  subst h6
  refine W.eq (g2 := F0 m 808 ls [.int ((zAll r (xs (i + 1))).1)]) (rfl) ?_
  refine lv_istore hx hb d_W_808 hl (by decide) rfl (fun ls hl => ?_)
  have hl : lv_has ls 8 [(6, .int ((zAll r (xs (i + 1))).1)), (5, .int (cdOf [qA] (yAll d (xs (i + 1))).1)), (4, .int (nI i)), (3, .ref o), (2, .ref (a 0)), (1, .ref (b 0)), (0, .ref scr)] := hl
  refine lv_aload_n hx hb d_W_810 rfl (lv_at hl 4 rfl) ?_
  refine vp_callSi (va_Run.run (va_runV (As := []) (rest := []) ⟨hx, hb, hml, hown, hB⟩ (m_M_thrown l dC dI k a ((zAll r (xs (i + 1))).2)) (cwV 0 hB (BIG_V bw_379 bw_380 bw_381 bw_18 bw_382) rfl rfl rfl ⟨rfl, by decide, by decide, by decide +kernel⟩ ⟨Nat.le_of_ble_eq_true rfl, Nat.le_of_ble_eq_true rfl⟩) (mRc_pre _ (va_P_r hP) hK) rfl rfl hl.1 rfl (lv_room (Nat.le_of_ble_eq_true rfl)) d_W_811 ⟨by show cells + 5 + 0 + 0 ≤ 601024; omega, by show slots + 30 + 0 + 0 ≤ 7293034; omega⟩)) (fun r7 hr7 => ?_)
  subst hr7
  refine W.eq (g2 := F0 m 814 ls [.int (zE ((zAll r (xs (i + 1))).2))]) (rfl) ?_
  have hsim := sim_all hSim (xs (i + 1))
  refine lv_iload hx hb d_W_814 (lv_at hl 1 rfl) ?_
  refine lv_icmp_eq hx hb d_W_816 rfl (fun _ => ?_) (fun h9 => absurd (hsim.1) h9)
  refine lv_iload hx hb d_W_821 (lv_at hl 1 rfl) ?_
  cases he : (yAll d (xs (i + 1))).1 with
  | some X =>
    refine lv_if_ne hx hb d_W_823 rfl (fun _ => ?_) (fun h9 => absurd h9 (cd_ne (by decide)))
    refine lv_goto hx hb d_W_838 rfl ?_
    exact kk H _ ls _ _ _ ⟨hl.1, hl.2.1, fun q hq => hl.2.2 q (by simp only [List.mem_cons, List.not_mem_nil, or_false] at hq ⊢; rcases hq with h | h | h | h | h <;> simp [h])⟩ hP hD hS (Sim.wide hsim.2.1 (fun _ _ => Nat.le_succ _))
  | none =>
    refine lv_if_ne hx hb d_W_823 rfl (fun h9 => absurd h9 (fun q => q rfl)) (fun _ => ?_)
    refine lv_aload_n hx hb d_W_826 rfl (lv_at hl 3 rfl) ?_
    refine lv_iconst (v := nI 0) hx hb d_W_827 (by decide) ?_
    refine va_lald hx hb hK hP 0 1 rfl rfl (pk_in 0 1 (by omega)) d_W_828 ?_
    refine W.eq (g2 := F0 m 829 ls [.long (g2 0)]) (by rw [cl_nI (by omega)]) ?_
    refine lv_iload hx hb d_W_829 (lv_at hl 0 rfl) ?_
    refine lv_i2l hx hb d_W_831 rfl ?_
    refine W.lcmp hx hb d_W_832 ?_
    refine lv_if_eq hx hb d_W_833 rfl (fun _ => ?_) (fun h9 => absurd (by rw [hval he, hsim.2.2 he]; exact lg_cmp_self _) h9)
    refine lv_goto hx hb d_W_838 rfl ?_
    exact kk H _ ls _ _ _ ⟨hl.1, hl.2.1, fun q hq => hl.2.2 q (by simp only [List.mem_cons, List.not_mem_nil, or_false] at hq ⊢; rcases hq with h | h | h | h | h <;> simp [h])⟩ hP hD hS (Sim.wide hsim.2.1 (fun _ _ => Nat.le_succ _))
