/-! The law: an arm a call. -/
set_option maxHeartbeats 4000000 in
set_option maxRecDepth 100000 in
theorem arm_7 {p : Program} {e : Env} {s : State} {m : MethodId} {below : List Frame} {meth : Method} {c : Code} {Q : State → Prop} (l : Launch) {scr L : Nat} {xs : Nat → Int32} (hx : p.tables.exec = Jvm.exec) (hb : c.code = code) (hml : c.maxLocals = 8) (hown : s.vm.findClass R_L = some m.cls) (hB : ∀ w ∈ BIG, w.before #[Value.ref scr] s = true) (hX : va_X scr L xs s s.heap) (hbl : scr < s.heap.size) {dC : Nat → ClassId} {dI : Nat → Nat → Nat} {k : Nat → ClassId} (hK : va_K (dC, dI) vwC (kT k) s) (hTh : xTh s) (hCt : xCt s) (htr : l.stackTraces = false) {b : Nat → Nat} {o : Nat} {a : Nat → Nat} {d : xDS} {g : Nat → Int64} {r : xRS} {n i : Nat} {H : Heap} {locs : List Loc} {ls : Array Slot} {cells slots : Nat} (hL : L ≤ 2560) (hi : i + 5 ≤ L) (hn : n < 2560) (hce : cells + 5 ≤ 601024) (hsl : slots + 30 ≤ 7293034) (hl : lv_has ls 8 [(4, .int (nI i)), (3, .ref o), (2, .ref (a 0)), (1, .ref (b 0)), (0, .ref scr)]) (hP : va_P (dC, dI) vwC (qW k b o a d g r) H) (hD : va_D (xA s) (qW k b o a d g r)) (hS : va_S (xA s) s.heap H locs) (hSim : Sim (fun _ => n) d r) (kk : ∀ (H : Heap) (locs : List Loc) (ls : Array Slot) (d : xDS) (g : Nat → Int64) (r : xRS), lv_has ls 8 [(4, .int (nI i)), (3, .ref o), (2, .ref (a 0)), (1, .ref (b 0)), (0, .ref scr)] → va_P (dC, dI) vwC (qW k b o a d g r) H → va_D (xA s) (qW k b o a d g r) → va_S (xA s) s.heap H locs → Sim (fun _ => n + 1) d r → W p l e room_1 s m #[Value.ref scr] below meth c H locs (cells + 5) (slots + 30) Q (F0 m 841 ls [])) : W p l e room_1 s m #[Value.ref scr] below meth c H locs cells slots Q (F0 m 490 ls []) := by
  have hDk := hD
  refine lv_aload_n hx hb d_W_490 rfl (lv_at hl 3 rfl) ?_
  refine lv_aload_n hx hb d_W_491 rfl (lv_at hl 4 rfl) ?_
  refine lv_iload hx hb d_W_492 (lv_at hl 0 rfl) ?_
  refine lv_iconst (v := nI 1) hx hb d_W_494 (by decide) ?_
  refine lv_iadd hx hb d_W_495 ?_
  refine W.eq (g2 := F0 m 496 ls [.int (nI (i + 1)), .ref scr, .ref (b 0)]) (by rw [nI_add]) ?_
  refine va_sld hx hb hX hbl (Nat.not_le.mpr hbl) hS (pk_in (i + 1) L (by omega)) d_W_496 ?_
  refine W.eq (g2 := F0 m 497 ls [.int (xs (i + 1)), .ref (b 0)]) (by rw [cl_nI (by omega)]) ?_
  have hFc := xq_free (w := lW k b o d g) (va_D_l hD) hS (fun _ h => h)
  refine va_calli (xc_runS (n := 2) (As := [.ref (b 0), .int (xs (i + 1))]) (rest := []) ⟨hx, hb, hml, hown, hB⟩ (m_L_leave l dC dI k b o _ d g (xs (i + 1)) htr) (BIG_good bw_292) rfl rfl rfl ⟨Nat.le_of_ble_eq_true rfl, Nat.le_of_ble_eq_true rfl⟩ (hB _ bw_290) (hB _ bw_291) (hB _ bw_15) ⟨by decide, by decide⟩ (by decide +kernel) (lPc_pre _ (va_P_l hP) hK (va_D_l hD) hTh hCt (keep_new hS)) rfl rfl hl.1 rfl (lv_room (Nat.le_of_ble_eq_true rfl)) d_W_497 ⟨by show cells + 5 ≤ 601024; omega, by show slots + 30 ≤ 7293034; omega⟩) hS (fun q _ h => hFc q h) hFc (fun r7 u t H1 locs ht hvm hw hB1 hz1 hk1 hS => ?_)
  obtain ⟨d2, g2⟩ := u
  obtain ⟨hr7, hd2⟩ := hw
  have hd2 : d2 = (yLeave d (xs (i + 1))).2 := hd2
  have hB2 : va_P (dC, dI) vwC (lW k b o d2 g2) H1 := by rw [← ht]; exact hB1
  rw [hd2] at hB2
  have hP : va_P (dC, dI) vwC (qW k b o a ((yLeave d (xs (i + 1))).2) g2 r) H1 := xq_l hP hD hB2 hk1
  have hD : va_D (xA s) (qW k b o a ((yLeave d (xs (i + 1))).2) g2 r) := qW_D hDk
  clear hFc hB1 hB2 hk1 hz1 ht hvm
  generalize H1 = H at hP hS ⊢
  subst hr7
  refine W.eq (g2 := F0 m 500 ls [.int (cdOf [qA, qS] (yLeave d (xs (i + 1))).1)]) (rfl) ?_
  refine lv_istore hx hb d_W_500 hl (by decide) rfl (fun ls hl => ?_)
  have hl : lv_has ls 8 [(5, .int (cdOf [qA, qS] (yLeave d (xs (i + 1))).1)), (4, .int (nI i)), (3, .ref o), (2, .ref (a 0)), (1, .ref (b 0)), (0, .ref scr)] := hl
  refine lv_aload_n hx hb d_W_502 rfl (lv_at hl 3 rfl) ?_
  refine lv_aload_n hx hb d_W_503 rfl (lv_at hl 5 rfl) ?_
  refine lv_iload hx hb d_W_504 (lv_at hl 1 rfl) ?_
  refine lv_iconst (v := nI 1) hx hb d_W_506 (by decide) ?_
  refine lv_iadd hx hb d_W_507 ?_
  refine W.eq (g2 := F0 m 508 ls [.int (nI (i + 1)), .ref scr, .ref (a 0)]) (by rw [nI_add]) ?_
  refine va_sld hx hb hX hbl (Nat.not_le.mpr hbl) hS (pk_in (i + 1) L (by omega)) d_W_508 ?_
  refine W.eq (g2 := F0 m 509 ls [.int (xs (i + 1)), .ref (a 0)]) (by rw [cl_nI (by omega)]) ?_
  have hFc := xq_free (w := mW k a r) (va_D_r hD) hS (fun _ h => h)
  refine va_callv (va_runV (As := [.int (xs (i + 1))]) (rest := []) ⟨hx, hb, hml, hown, hB⟩ (m_M_leave l dC dI k a _ r (xs (i + 1))) (cwV 1 hB (BIG_V bw_437 bw_438 bw_439 bw_18 bw_440) rfl rfl rfl ⟨rfl, by decide, by decide, by decide +kernel⟩ ⟨Nat.le_of_ble_eq_true rfl, Nat.le_of_ble_eq_true rfl⟩) (mPc_pre _ (va_P_r hP) hK (va_D_r hD)) rfl rfl hl.1 rfl (lv_room (Nat.le_of_ble_eq_true rfl)) d_W_509 ⟨by show cells + 5 + 0 ≤ 601024; omega, by show slots + 30 + 0 ≤ 7293034; omega⟩) hS (fun q _ h => hFc q h) hFc (fun u t H1 locs ht hvm hw hB1 hz1 hk1 hS => ?_)
  have hu : u = (zLeave r (xs (i + 1))) := hw
  have hB2 : va_P (dC, dI) vwC (mW k a u) H1 := by rw [← ht]; exact hB1
  rw [hu] at hB2
  have hP : va_P (dC, dI) vwC (qW k b o a ((yLeave d (xs (i + 1))).2) g2 (zLeave r (xs (i + 1)))) H1 := xq_r hP hD hB2 hk1
  have hD : va_D (xA s) (qW k b o a ((yLeave d (xs (i + 1))).2) g2 (zLeave r (xs (i + 1)))) := qW_D hDk
  clear hFc hB1 hB2 hk1 hz1 ht hvm
  generalize H1 = H at hP hS ⊢
  refine lv_aload_n hx hb d_W_512 rfl (lv_at hl 3 rfl) ?_
  refine vp_callSi (va_Run.run (va_runV (As := []) (rest := []) ⟨hx, hb, hml, hown, hB⟩ (m_M_thrown l dC dI k a (zLeave r (xs (i + 1)))) (cwV 0 hB (BIG_V bw_379 bw_380 bw_381 bw_18 bw_382) rfl rfl rfl ⟨rfl, by decide, by decide, by decide +kernel⟩ ⟨Nat.le_of_ble_eq_true rfl, Nat.le_of_ble_eq_true rfl⟩) (mRc_pre _ (va_P_r hP) hK) rfl rfl hl.1 rfl (lv_room (Nat.le_of_ble_eq_true rfl)) d_W_513 ⟨by show cells + 5 + 0 + 0 ≤ 601024; omega, by show slots + 30 + 0 + 0 ≤ 7293034; omega⟩)) (fun r7 hr7 => ?_)
  subst hr7
  refine W.eq (g2 := F0 m 516 ls [.int (zE (zLeave r (xs (i + 1))))]) (rfl) ?_
  have hsim := sim_leave hSim (xs (i + 1))
  refine lv_iload hx hb d_W_516 (lv_at hl 0 rfl) ?_
  refine lv_icmp_eq hx hb d_W_518 rfl (fun _ => ?_) (fun h9 => absurd (hsim.1) h9)
  refine lv_goto hx hb d_W_523 rfl ?_
  exact kk H _ ls _ _ _ ⟨hl.1, hl.2.1, fun q hq => hl.2.2 q (by simp only [List.mem_cons, List.not_mem_nil, or_false] at hq ⊢; rcases hq with h | h | h | h | h <;> simp [h])⟩ hP hD hS (Sim.wide hsim.2 (fun _ _ => Nat.le_succ _))
set_option maxHeartbeats 4000000 in
set_option maxRecDepth 100000 in
theorem arm_8 {p : Program} {e : Env} {s : State} {m : MethodId} {below : List Frame} {meth : Method} {c : Code} {Q : State → Prop} (l : Launch) {scr L : Nat} {xs : Nat → Int32} (hx : p.tables.exec = Jvm.exec) (hb : c.code = code) (hml : c.maxLocals = 8) (hown : s.vm.findClass R_L = some m.cls) (hB : ∀ w ∈ BIG, w.before #[Value.ref scr] s = true) (hX : va_X scr L xs s s.heap) (hbl : scr < s.heap.size) {dC : Nat → ClassId} {dI : Nat → Nat → Nat} {k : Nat → ClassId} (hK : va_K (dC, dI) vwC (kT k) s) (hTh : xTh s) (hCt : xCt s) (htr : l.stackTraces = false) {b : Nat → Nat} {o : Nat} {a : Nat → Nat} {d : xDS} {g : Nat → Int64} {r : xRS} {n i : Nat} {H : Heap} {locs : List Loc} {ls : Array Slot} {cells slots : Nat} (hL : L ≤ 2560) (hi : i + 5 ≤ L) (hn : n < 2560) (hce : cells + 5 ≤ 601024) (hsl : slots + 30 ≤ 7293034) (hl : lv_has ls 8 [(4, .int (nI i)), (3, .ref o), (2, .ref (a 0)), (1, .ref (b 0)), (0, .ref scr)]) (hP : va_P (dC, dI) vwC (qW k b o a d g r) H) (hD : va_D (xA s) (qW k b o a d g r)) (hS : va_S (xA s) s.heap H locs) (hSim : Sim (fun _ => n) d r) (kk : ∀ (H : Heap) (locs : List Loc) (ls : Array Slot) (d : xDS) (g : Nat → Int64) (r : xRS), lv_has ls 8 [(4, .int (nI i)), (3, .ref o), (2, .ref (a 0)), (1, .ref (b 0)), (0, .ref scr)] → va_P (dC, dI) vwC (qW k b o a d g r) H → va_D (xA s) (qW k b o a d g r) → va_S (xA s) s.heap H locs → Sim (fun _ => n + 1) d r → W p l e room_1 s m #[Value.ref scr] below meth c H locs (cells + 5) (slots + 30) Q (F0 m 841 ls [])) : W p l e room_1 s m #[Value.ref scr] below meth c H locs cells slots Q (F0 m 526 ls []) := by
  have hDk := hD
  refine lv_aload_n hx hb d_W_526 rfl (lv_at hl 3 rfl) ?_
  refine lv_aload_n hx hb d_W_527 rfl (lv_at hl 4 rfl) ?_
  refine lv_iload hx hb d_W_528 (lv_at hl 0 rfl) ?_
  refine lv_iconst (v := nI 1) hx hb d_W_530 (by decide) ?_
  refine lv_iadd hx hb d_W_531 ?_
  refine W.eq (g2 := F0 m 532 ls [.int (nI (i + 1)), .ref scr, .ref (b 0)]) (by rw [nI_add]) ?_
  refine va_sld hx hb hX hbl (Nat.not_le.mpr hbl) hS (pk_in (i + 1) L (by omega)) d_W_532 ?_
  refine W.eq (g2 := F0 m 533 ls [.int (xs (i + 1)), .ref (b 0)]) (by rw [cl_nI (by omega)]) ?_
  refine lv_aload_n hx hb d_W_533 rfl (lv_at hl 4 rfl) ?_
  refine lv_iload hx hb d_W_534 (lv_at hl 0 rfl) ?_
  refine lv_iconst (v := nI 2) hx hb d_W_536 (by decide) ?_
  refine lv_iadd hx hb d_W_537 ?_
  refine W.eq (g2 := F0 m 538 ls [.int (nI (i + 2)), .ref scr, .int (xs (i + 1)), .ref (b 0)]) (by rw [nI_add]) ?_
  refine va_sld hx hb hX hbl (Nat.not_le.mpr hbl) hS (pk_in (i + 2) L (by omega)) d_W_538 ?_
  refine W.eq (g2 := F0 m 539 ls [.int (xs (i + 2)), .int (xs (i + 1)), .ref (b 0)]) (by rw [cl_nI (by omega)]) ?_
  refine lv_i2l hx hb d_W_539 rfl ?_
  refine lv_bipush (v := nI 32) hx hb d_W_540 (by decide) ?_
  refine lv_lshl (v := ((xs (i + 2)).toInt64) <<< (Int32.toInt64 (nI 32) &&& 63)) hx hb d_W_542 rfl ?_
  refine lv_aload_n hx hb d_W_543 rfl (lv_at hl 4 rfl) ?_
  refine lv_iload hx hb d_W_544 (lv_at hl 0 rfl) ?_
  refine lv_iconst (v := nI 3) hx hb d_W_546 (by decide) ?_
  refine lv_iadd hx hb d_W_547 ?_
  refine W.eq (g2 := F0 m 548 ls [.int (nI (i + 3)), .ref scr, .long (((xs (i + 2)).toInt64) <<< (Int32.toInt64 (nI 32) &&& 63)), .int (xs (i + 1)), .ref (b 0)]) (by rw [nI_add]) ?_
  refine va_sld hx hb hX hbl (Nat.not_le.mpr hbl) hS (pk_in (i + 3) L (by omega)) d_W_548 ?_
  refine W.eq (g2 := F0 m 549 ls [.int (xs (i + 3)), .long (((xs (i + 2)).toInt64) <<< (Int32.toInt64 (nI 32) &&& 63)), .int (xs (i + 1)), .ref (b 0)]) (by rw [cl_nI (by omega)]) ?_
  refine lv_i2l hx hb d_W_549 rfl ?_
  refine lv_ldc2 hx hb hown (hB _ bw_463) d_W_550 ?_
  refine lv_land hx hb d_W_553 ?_
  refine lv_lor hx hb d_W_554 ?_
  have hFc := xq_free (w := lW k b o d g) (va_D_l hD) hS (fun _ h => h)
  refine va_calli (xc_runS (n := 3) (As := [.ref (b 0), .int (xs (i + 1)), .long ((((xs (i + 2)).toInt64) <<< (Int32.toInt64 (nI 32) &&& 63)) ||| (((xs (i + 3)).toInt64) &&& 4294967295))]) (rest := []) ⟨hx, hb, hml, hown, hB⟩ (m_L_set l dC dI k b o _ d g (xs (i + 1)) ((((xs (i + 2)).toInt64) <<< (Int32.toInt64 (nI 32) &&& 63)) ||| (((xs (i + 3)).toInt64) &&& 4294967295)) htr) (BIG_good bw_299) rfl rfl rfl ⟨Nat.le_of_ble_eq_true rfl, Nat.le_of_ble_eq_true rfl⟩ (hB _ bw_297) (hB _ bw_298) (hB _ bw_15) ⟨by decide, by decide⟩ (by decide +kernel) (lPc_pre _ (va_P_l hP) hK (va_D_l hD) hTh hCt (keep_new hS)) rfl rfl hl.1 rfl (lv_room (Nat.le_of_ble_eq_true rfl)) d_W_555 ⟨by show cells + 5 ≤ 601024; omega, by show slots + 30 ≤ 7293034; omega⟩) hS (fun q _ h => hFc q h) hFc (fun r7 u t H1 locs ht hvm hw hB1 hz1 hk1 hS => ?_)
  obtain ⟨d2, g2⟩ := u
  obtain ⟨hr7, hd2⟩ := hw
  have hd2 : d2 = (yPut d (xs (i + 1)) ((((xs (i + 2)).toInt64) <<< (Int32.toInt64 (nI 32) &&& 63)) ||| (((xs (i + 3)).toInt64) &&& 4294967295))).2 := hd2
  have hB2 : va_P (dC, dI) vwC (lW k b o d2 g2) H1 := by rw [← ht]; exact hB1
  rw [hd2] at hB2
  have hP : va_P (dC, dI) vwC (qW k b o a ((yPut d (xs (i + 1)) ((((xs (i + 2)).toInt64) <<< (Int32.toInt64 (nI 32) &&& 63)) ||| (((xs (i + 3)).toInt64) &&& 4294967295))).2) g2 r) H1 := xq_l hP hD hB2 hk1
  have hD : va_D (xA s) (qW k b o a ((yPut d (xs (i + 1)) ((((xs (i + 2)).toInt64) <<< (Int32.toInt64 (nI 32) &&& 63)) ||| (((xs (i + 3)).toInt64) &&& 4294967295))).2) g2 r) := qW_D hDk
  clear hFc hB1 hB2 hk1 hz1 ht hvm
  generalize H1 = H at hP hS ⊢
  subst hr7
  refine W.eq (g2 := F0 m 558 ls [.int (cdOf [qB] (yPut d (xs (i + 1)) ((((xs (i + 2)).toInt64) <<< (Int32.toInt64 (nI 32) &&& 63)) ||| (((xs (i + 3)).toInt64) &&& 4294967295))).1)]) (rfl) ?_
  refine lv_istore hx hb d_W_558 hl (by decide) rfl (fun ls hl => ?_)
  have hl : lv_has ls 8 [(5, .int (cdOf [qB] (yPut d (xs (i + 1)) ((((xs (i + 2)).toInt64) <<< (Int32.toInt64 (nI 32) &&& 63)) ||| (((xs (i + 3)).toInt64) &&& 4294967295))).1)), (4, .int (nI i)), (3, .ref o), (2, .ref (a 0)), (1, .ref (b 0)), (0, .ref scr)] := hl
  refine lv_aload_n hx hb d_W_560 rfl (lv_at hl 3 rfl) ?_
  refine lv_aload_n hx hb d_W_561 rfl (lv_at hl 5 rfl) ?_
  refine lv_iload hx hb d_W_562 (lv_at hl 1 rfl) ?_
  refine lv_iconst (v := nI 1) hx hb d_W_564 (by decide) ?_
  refine lv_iadd hx hb d_W_565 ?_
  refine W.eq (g2 := F0 m 566 ls [.int (nI (i + 1)), .ref scr, .ref (a 0)]) (by rw [nI_add]) ?_
  refine va_sld hx hb hX hbl (Nat.not_le.mpr hbl) hS (pk_in (i + 1) L (by omega)) d_W_566 ?_
  refine W.eq (g2 := F0 m 567 ls [.int (xs (i + 1)), .ref (a 0)]) (by rw [cl_nI (by omega)]) ?_
  refine lv_aload_n hx hb d_W_567 rfl (lv_at hl 5 rfl) ?_
  refine lv_iload hx hb d_W_568 (lv_at hl 1 rfl) ?_
  refine lv_iconst (v := nI 2) hx hb d_W_570 (by decide) ?_
  refine lv_iadd hx hb d_W_571 ?_
  refine W.eq (g2 := F0 m 572 ls [.int (nI (i + 2)), .ref scr, .int (xs (i + 1)), .ref (a 0)]) (by rw [nI_add]) ?_
  refine va_sld hx hb hX hbl (Nat.not_le.mpr hbl) hS (pk_in (i + 2) L (by omega)) d_W_572 ?_
  refine W.eq (g2 := F0 m 573 ls [.int (xs (i + 2)), .int (xs (i + 1)), .ref (a 0)]) (by rw [cl_nI (by omega)]) ?_
  refine lv_i2l hx hb d_W_573 rfl ?_
  refine lv_bipush (v := nI 32) hx hb d_W_574 (by decide) ?_
  refine lv_lshl (v := ((xs (i + 2)).toInt64) <<< (Int32.toInt64 (nI 32) &&& 63)) hx hb d_W_576 rfl ?_
  refine lv_aload_n hx hb d_W_577 rfl (lv_at hl 5 rfl) ?_
  refine lv_iload hx hb d_W_578 (lv_at hl 1 rfl) ?_
  refine lv_iconst (v := nI 3) hx hb d_W_580 (by decide) ?_
  refine lv_iadd hx hb d_W_581 ?_
  refine W.eq (g2 := F0 m 582 ls [.int (nI (i + 3)), .ref scr, .long (((xs (i + 2)).toInt64) <<< (Int32.toInt64 (nI 32) &&& 63)), .int (xs (i + 1)), .ref (a 0)]) (by rw [nI_add]) ?_
  refine va_sld hx hb hX hbl (Nat.not_le.mpr hbl) hS (pk_in (i + 3) L (by omega)) d_W_582 ?_
  refine W.eq (g2 := F0 m 583 ls [.int (xs (i + 3)), .long (((xs (i + 2)).toInt64) <<< (Int32.toInt64 (nI 32) &&& 63)), .int (xs (i + 1)), .ref (a 0)]) (by rw [cl_nI (by omega)]) ?_
  refine lv_i2l hx hb d_W_583 rfl ?_
  refine lv_ldc2 hx hb hown (hB _ bw_463) d_W_584 ?_
  refine lv_land hx hb d_W_587 ?_
  refine lv_lor hx hb d_W_588 ?_
  have hFc := xq_free (w := mW k a r) (va_D_r hD) hS (fun _ h => h)
  refine va_callv (va_runV (As := [.int (xs (i + 1)), .long ((((xs (i + 2)).toInt64) <<< (Int32.toInt64 (nI 32) &&& 63)) ||| (((xs (i + 3)).toInt64) &&& 4294967295))]) (rest := []) ⟨hx, hb, hml, hown, hB⟩ (m_M_set l dC dI k a _ r (xs (i + 1)) ((((xs (i + 2)).toInt64) <<< (Int32.toInt64 (nI 32) &&& 63)) ||| (((xs (i + 3)).toInt64) &&& 4294967295))) (cwV 2 hB (BIG_V bw_441 bw_442 bw_443 bw_18 bw_444) rfl rfl rfl ⟨rfl, by decide, by decide, by decide +kernel⟩ ⟨Nat.le_of_ble_eq_true rfl, Nat.le_of_ble_eq_true rfl⟩) (mPc_pre _ (va_P_r hP) hK (va_D_r hD)) rfl rfl hl.1 rfl (lv_room (Nat.le_of_ble_eq_true rfl)) d_W_589 ⟨by show cells + 5 + 0 ≤ 601024; omega, by show slots + 30 + 0 ≤ 7293034; omega⟩) hS (fun q _ h => hFc q h) hFc (fun u t H1 locs ht hvm hw hB1 hz1 hk1 hS => ?_)
  have hu : u = (zPut r (xs (i + 1)) ((((xs (i + 2)).toInt64) <<< (Int32.toInt64 (nI 32) &&& 63)) ||| (((xs (i + 3)).toInt64) &&& 4294967295))) := hw
  have hB2 : va_P (dC, dI) vwC (mW k a u) H1 := by rw [← ht]; exact hB1
  rw [hu] at hB2
  have hP : va_P (dC, dI) vwC (qW k b o a ((yPut d (xs (i + 1)) ((((xs (i + 2)).toInt64) <<< (Int32.toInt64 (nI 32) &&& 63)) ||| (((xs (i + 3)).toInt64) &&& 4294967295))).2) g2 (zPut r (xs (i + 1)) ((((xs (i + 2)).toInt64) <<< (Int32.toInt64 (nI 32) &&& 63)) ||| (((xs (i + 3)).toInt64) &&& 4294967295)))) H1 := xq_r hP hD hB2 hk1
  have hD : va_D (xA s) (qW k b o a ((yPut d (xs (i + 1)) ((((xs (i + 2)).toInt64) <<< (Int32.toInt64 (nI 32) &&& 63)) ||| (((xs (i + 3)).toInt64) &&& 4294967295))).2) g2 (zPut r (xs (i + 1)) ((((xs (i + 2)).toInt64) <<< (Int32.toInt64 (nI 32) &&& 63)) ||| (((xs (i + 3)).toInt64) &&& 4294967295)))) := qW_D hDk
  clear hFc hB1 hB2 hk1 hz1 ht hvm
  generalize H1 = H at hP hS ⊢
  refine lv_aload_n hx hb d_W_592 rfl (lv_at hl 3 rfl) ?_
  refine vp_callSi (va_Run.run (va_runV (As := []) (rest := []) ⟨hx, hb, hml, hown, hB⟩ (m_M_thrown l dC dI k a (zPut r (xs (i + 1)) ((((xs (i + 2)).toInt64) <<< (Int32.toInt64 (nI 32) &&& 63)) ||| (((xs (i + 3)).toInt64) &&& 4294967295)))) (cwV 0 hB (BIG_V bw_379 bw_380 bw_381 bw_18 bw_382) rfl rfl rfl ⟨rfl, by decide, by decide, by decide +kernel⟩ ⟨Nat.le_of_ble_eq_true rfl, Nat.le_of_ble_eq_true rfl⟩) (mRc_pre _ (va_P_r hP) hK) rfl rfl hl.1 rfl (lv_room (Nat.le_of_ble_eq_true rfl)) d_W_593 ⟨by show cells + 5 + 0 + 0 ≤ 601024; omega, by show slots + 30 + 0 + 0 ≤ 7293034; omega⟩)) (fun r7 hr7 => ?_)
  subst hr7
  refine W.eq (g2 := F0 m 596 ls [.int (zE (zPut r (xs (i + 1)) ((((xs (i + 2)).toInt64) <<< (Int32.toInt64 (nI 32) &&& 63)) ||| (((xs (i + 3)).toInt64) &&& 4294967295))))]) (rfl) ?_
  have hsim := sim_put hSim (fun _ _ => by omega) (xs (i + 1)) ((((xs (i + 2)).toInt64) <<< (Int32.toInt64 (nI 32) &&& 63)) ||| (((xs (i + 3)).toInt64) &&& 4294967295))
  refine lv_iload hx hb d_W_596 (lv_at hl 0 rfl) ?_
  refine lv_icmp_eq hx hb d_W_598 rfl (fun _ => ?_) (fun h9 => absurd (hsim.1) h9)
  refine lv_goto hx hb d_W_603 rfl ?_
  exact kk H _ ls _ _ _ ⟨hl.1, hl.2.1, fun q hq => hl.2.2 q (by simp only [List.mem_cons, List.not_mem_nil, or_false] at hq ⊢; rcases hq with h | h | h | h | h <;> simp [h])⟩ hP hD hS (hsim.2)
set_option maxHeartbeats 4000000 in
set_option maxRecDepth 100000 in
theorem arm_9 {p : Program} {e : Env} {s : State} {m : MethodId} {below : List Frame} {meth : Method} {c : Code} {Q : State → Prop} (l : Launch) {scr L : Nat} {xs : Nat → Int32} (hx : p.tables.exec = Jvm.exec) (hb : c.code = code) (hml : c.maxLocals = 8) (hown : s.vm.findClass R_L = some m.cls) (hB : ∀ w ∈ BIG, w.before #[Value.ref scr] s = true) (hX : va_X scr L xs s s.heap) (hbl : scr < s.heap.size) {dC : Nat → ClassId} {dI : Nat → Nat → Nat} {k : Nat → ClassId} (hK : va_K (dC, dI) vwC (kT k) s) (hTh : xTh s) (hCt : xCt s) (htr : l.stackTraces = false) {b : Nat → Nat} {o : Nat} {a : Nat → Nat} {d : xDS} {g : Nat → Int64} {r : xRS} {n i : Nat} {H : Heap} {locs : List Loc} {ls : Array Slot} {cells slots : Nat} (hL : L ≤ 2560) (hi : i + 5 ≤ L) (hn : n < 2560) (hce : cells + 5 ≤ 601024) (hsl : slots + 30 ≤ 7293034) (hl : lv_has ls 8 [(4, .int (nI i)), (3, .ref o), (2, .ref (a 0)), (1, .ref (b 0)), (0, .ref scr)]) (hP : va_P (dC, dI) vwC (qW k b o a d g r) H) (hD : va_D (xA s) (qW k b o a d g r)) (hS : va_S (xA s) s.heap H locs) (hSim : Sim (fun _ => n) d r) (kk : ∀ (H : Heap) (locs : List Loc) (ls : Array Slot) (d : xDS) (g : Nat → Int64) (r : xRS), lv_has ls 8 [(4, .int (nI i)), (3, .ref o), (2, .ref (a 0)), (1, .ref (b 0)), (0, .ref scr)] → va_P (dC, dI) vwC (qW k b o a d g r) H → va_D (xA s) (qW k b o a d g r) → va_S (xA s) s.heap H locs → Sim (fun _ => n + 1) d r → W p l e room_1 s m #[Value.ref scr] below meth c H locs (cells + 5) (slots + 30) Q (F0 m 841 ls [])) : W p l e room_1 s m #[Value.ref scr] below meth c H locs cells slots Q (F0 m 606 ls []) := by
  have hDk := hD
  refine lv_aload_n hx hb d_W_606 rfl (lv_at hl 3 rfl) ?_
  refine lv_aload_n hx hb d_W_607 rfl (lv_at hl 4 rfl) ?_
  refine lv_iload hx hb d_W_608 (lv_at hl 0 rfl) ?_
  refine lv_iconst (v := nI 1) hx hb d_W_610 (by decide) ?_
  refine lv_iadd hx hb d_W_611 ?_
  refine W.eq (g2 := F0 m 612 ls [.int (nI (i + 1)), .ref scr, .ref (b 0)]) (by rw [nI_add]) ?_
  refine va_sld hx hb hX hbl (Nat.not_le.mpr hbl) hS (pk_in (i + 1) L (by omega)) d_W_612 ?_
  refine W.eq (g2 := F0 m 613 ls [.int (xs (i + 1)), .ref (b 0)]) (by rw [cl_nI (by omega)]) ?_
  refine lv_aload_n hx hb d_W_613 rfl (lv_at hl 1 rfl) ?_
  have hFc := xq_free (w := lW k b o d g) (va_D_l hD) hS (fun _ h => h)
  refine va_calli (xc_runS (n := 3) (As := [.ref (b 0), .int (xs (i + 1)), .ref o]) (rest := []) ⟨hx, hb, hml, hown, hB⟩ (m_L_cell l dC dI k b o _ d g (xs (i + 1)) htr) (BIG_good bw_306) rfl rfl rfl ⟨Nat.le_of_ble_eq_true rfl, Nat.le_of_ble_eq_true rfl⟩ (hB _ bw_304) (hB _ bw_305) (hB _ bw_15) ⟨by decide, by decide⟩ (by decide +kernel) (lPc_pre _ (va_P_l hP) hK (va_D_l hD) hTh hCt (keep_new hS)) rfl rfl hl.1 rfl (lv_room (Nat.le_of_ble_eq_true rfl)) d_W_614 ⟨by show cells + 5 ≤ 601024; omega, by show slots + 30 ≤ 7293034; omega⟩) hS (fun q _ h => hFc q h) hFc (fun r7 u t H1 locs ht hvm hw hB1 hz1 hk1 hS => ?_)
  obtain ⟨d2, g2⟩ := u
  obtain ⟨hr7, hd2, hval⟩ := hw
  dsimp only at hval
  have hd2 : d2 = d := hd2
  have hB2 : va_P (dC, dI) vwC (lW k b o d2 g2) H1 := by rw [← ht]; exact hB1
  rw [hd2] at hB2
  have hP : va_P (dC, dI) vwC (qW k b o a d g2 r) H1 := xq_l hP hD hB2 hk1
  have hD : va_D (xA s) (qW k b o a d g2 r) := qW_D hDk
  clear hFc hB1 hB2 hk1 hz1 ht hvm
  generalize H1 = H at hP hS ⊢
  subst hr7
  refine W.eq (g2 := F0 m 617 ls [.int (cdOf [qB] (yCell d (xs (i + 1))).1)]) (rfl) ?_
  refine lv_istore hx hb d_W_617 hl (by decide) rfl (fun ls hl => ?_)
  have hl : lv_has ls 8 [(5, .int (cdOf [qB] (yCell d (xs (i + 1))).1)), (4, .int (nI i)), (3, .ref o), (2, .ref (a 0)), (1, .ref (b 0)), (0, .ref scr)] := hl
  refine lv_aload_n hx hb d_W_619 rfl (lv_at hl 3 rfl) ?_
  refine lv_aload_n hx hb d_W_620 rfl (lv_at hl 5 rfl) ?_
  refine lv_iload hx hb d_W_621 (lv_at hl 1 rfl) ?_
  refine lv_iconst (v := nI 1) hx hb d_W_623 (by decide) ?_
  refine lv_iadd hx hb d_W_624 ?_
  refine W.eq (g2 := F0 m 625 ls [.int (nI (i + 1)), .ref scr, .ref (a 0)]) (by rw [nI_add]) ?_
  refine va_sld hx hb hX hbl (Nat.not_le.mpr hbl) hS (pk_in (i + 1) L (by omega)) d_W_625 ?_
  refine W.eq (g2 := F0 m 626 ls [.int (xs (i + 1)), .ref (a 0)]) (by rw [cl_nI (by omega)]) ?_
  have hFc := xq_free (w := mW k a r) (va_D_r hD) hS (fun _ h => h)
  refine va_calll (va_runV (As := [.int (xs (i + 1))]) (rest := []) ⟨hx, hb, hml, hown, hB⟩ (m_M_cell l dC dI k a _ r (xs (i + 1))) (cwV 1 hB (BIG_V bw_445 bw_446 bw_447 bw_18 bw_448) rfl rfl rfl ⟨rfl, by decide, by decide, by decide +kernel⟩ ⟨Nat.le_of_ble_eq_true rfl, Nat.le_of_ble_eq_true rfl⟩) (mPc_pre _ (va_P_r hP) hK (va_D_r hD)) rfl rfl hl.1 rfl (lv_room (Nat.le_of_ble_eq_true rfl)) d_W_626 ⟨by show cells + 5 + 0 ≤ 601024; omega, by show slots + 30 + 0 ≤ 7293034; omega⟩) hS (fun q _ h => hFc q h) hFc (fun r6 u t H1 locs ht hvm hw hB1 hz1 hk1 hS => ?_)
  have h6 : r6 = (zCell r (xs (i + 1))).1 := congrArg Prod.fst hw
  have hu : u = (zCell r (xs (i + 1))).2 := congrArg Prod.snd hw
  have hB2 : va_P (dC, dI) vwC (mW k a u) H1 := by rw [← ht]; exact hB1
  rw [hu] at hB2
  have hP : va_P (dC, dI) vwC (qW k b o a d g2 ((zCell r (xs (i + 1))).2)) H1 := xq_r hP hD hB2 hk1
  have hD : va_D (xA s) (qW k b o a d g2 ((zCell r (xs (i + 1))).2)) := qW_D hDk
  clear hFc hB1 hB2 hk1 hz1 ht hvm
  generalize H1 = H at hP hS ⊢
  subst h6
  refine W.eq (g2 := F0 m 629 ls [.long ((zCell r (xs (i + 1))).1)]) (rfl) ?_
  refine lv_lstore hx hb d_W_629 hl (by decide) rfl (fun ls hl => ?_)
  have hl : lv_has ls 8 [(6, .long ((zCell r (xs (i + 1))).1)), (5, .int (cdOf [qB] (yCell d (xs (i + 1))).1)), (4, .int (nI i)), (3, .ref o), (2, .ref (a 0)), (1, .ref (b 0)), (0, .ref scr)] := hl
  refine lv_aload_n hx hb d_W_631 rfl (lv_at hl 4 rfl) ?_
  refine vp_callSi (va_Run.run (va_runV (As := []) (rest := []) ⟨hx, hb, hml, hown, hB⟩ (m_M_thrown l dC dI k a ((zCell r (xs (i + 1))).2)) (cwV 0 hB (BIG_V bw_379 bw_380 bw_381 bw_18 bw_382) rfl rfl rfl ⟨rfl, by decide, by decide, by decide +kernel⟩ ⟨Nat.le_of_ble_eq_true rfl, Nat.le_of_ble_eq_true rfl⟩) (mRc_pre _ (va_P_r hP) hK) rfl rfl hl.1 rfl (lv_room (Nat.le_of_ble_eq_true rfl)) d_W_632 ⟨by show cells + 5 + 0 + 0 ≤ 601024; omega, by show slots + 30 + 0 + 0 ≤ 7293034; omega⟩)) (fun r7 hr7 => ?_)
  subst hr7
  refine W.eq (g2 := F0 m 635 ls [.int (zE ((zCell r (xs (i + 1))).2))]) (rfl) ?_
  have hsim := sim_cell hSim (xs (i + 1))
  refine lv_iload hx hb d_W_635 (lv_at hl 1 rfl) ?_
  refine lv_icmp_eq hx hb d_W_637 rfl (fun _ => ?_) (fun h9 => absurd (hsim.1) h9)
  refine lv_iload hx hb d_W_642 (lv_at hl 1 rfl) ?_
  cases he : (yCell d (xs (i + 1))).1 with
  | some X =>
    refine lv_if_ne hx hb d_W_644 rfl (fun _ => ?_) (fun h9 => absurd h9 (cd_ne (by decide)))
    refine lv_goto hx hb d_W_658 rfl ?_
    exact kk H _ ls _ _ _ ⟨hl.1, hl.2.1, fun q hq => hl.2.2 q (by simp only [List.mem_cons, List.not_mem_nil, or_false] at hq ⊢; rcases hq with h | h | h | h | h <;> simp [h])⟩ hP hD hS (Sim.wide hsim.2.1 (fun _ _ => Nat.le_succ _))
  | none =>
    refine lv_if_ne hx hb d_W_644 rfl (fun h9 => absurd h9 (fun q => q rfl)) (fun _ => ?_)
    refine lv_aload_n hx hb d_W_647 rfl (lv_at hl 3 rfl) ?_
    refine lv_iconst (v := nI 0) hx hb d_W_648 (by decide) ?_
    refine va_lald hx hb hK hP 0 1 rfl rfl (pk_in 0 1 (by omega)) d_W_649 ?_
    refine W.eq (g2 := F0 m 650 ls [.long (g2 0)]) (by rw [cl_nI (by omega)]) ?_
    refine lv_lload hx hb d_W_650 (lv_at hl 0 rfl) ?_
    refine W.lcmp hx hb d_W_652 ?_
    refine lv_if_eq hx hb d_W_653 rfl (fun _ => ?_) (fun h9 => absurd (by rw [hval he, hsim.2.2 he]; exact lg_cmp_self _) h9)
    refine lv_goto hx hb d_W_658 rfl ?_
    exact kk H _ ls _ _ _ ⟨hl.1, hl.2.1, fun q hq => hl.2.2 q (by simp only [List.mem_cons, List.not_mem_nil, or_false] at hq ⊢; rcases hq with h | h | h | h | h <;> simp [h])⟩ hP hD hS (Sim.wide hsim.2.1 (fun _ _ => Nat.le_succ _))
