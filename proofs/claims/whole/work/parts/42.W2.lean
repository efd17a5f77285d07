/-! The law: an arm a call. -/
set_option maxHeartbeats 4000000 in
set_option maxRecDepth 100000 in
theorem arm_3 {p : Program} {e : Env} {s : State} {m : MethodId} {below : List Frame} {meth : Method} {c : Code} {Q : State → Prop} (l : Launch) {scr L : Nat} {xs : Nat → Int32} (hx : p.tables.exec = Jvm.exec) (hb : c.code = code) (hml : c.maxLocals = 8) (hown : s.vm.findClass R_L = some m.cls) (hB : ∀ w ∈ BIG, w.before #[Value.ref scr] s = true) (hX : va_X scr L xs s s.heap) (hbl : scr < s.heap.size) {dC : Nat → ClassId} {dI : Nat → Nat → Nat} {k : Nat → ClassId} (hK : va_K (dC, dI) vwC (kT k) s) (hTh : xTh s) (hCt : xCt s) (htr : l.stackTraces = false) {b : Nat → Nat} {o : Nat} {a : Nat → Nat} {d : xDS} {g : Nat → Int64} {r : xRS} {n i : Nat} {H : Heap} {locs : List Loc} {ls : Array Slot} {cells slots : Nat} (hL : L ≤ 2560) (hi : i + 5 ≤ L) (hn : n < 2560) (hce : cells + 5 ≤ 601024) (hsl : slots + 30 ≤ 7293034) (hl : lv_has ls 8 [(4, .int (nI i)), (3, .ref o), (2, .ref (a 0)), (1, .ref (b 0)), (0, .ref scr)]) (hP : va_P (dC, dI) vwC (qW k b o a d g r) H) (hD : va_D (xA s) (qW k b o a d g r)) (hS : va_S (xA s) s.heap H locs) (hSim : Sim (fun _ => n) d r) (kk : ∀ (H : Heap) (locs : List Loc) (ls : Array Slot) (d : xDS) (g : Nat → Int64) (r : xRS), lv_has ls 8 [(4, .int (nI i)), (3, .ref o), (2, .ref (a 0)), (1, .ref (b 0)), (0, .ref scr)] → va_P (dC, dI) vwC (qW k b o a d g r) H → va_D (xA s) (qW k b o a d g r) → va_S (xA s) s.heap H locs → Sim (fun _ => n + 1) d r → W p l e room_1 s m #[Value.ref scr] below meth c H locs (cells + 5) (slots + 30) Q (F0 m 841 ls [])) : W p l e room_1 s m #[Value.ref scr] below meth c H locs cells slots Q (F0 m 299 ls []) := by
  have hDk := hD
  refine lv_aload_n hx hb d_W_299 rfl (lv_at hl 3 rfl) ?_
  refine lv_aload_n hx hb d_W_300 rfl (lv_at hl 4 rfl) ?_
  refine lv_iload hx hb d_W_301 (lv_at hl 0 rfl) ?_
  refine lv_iconst (v := nI 1) hx hb d_W_303 (by decide) ?_
  refine lv_iadd hx hb d_W_304 ?_
  refine W.eq (g2 := F0 m 305 ls [.int (nI (i + 1)), .ref scr, .ref (b 0)]) (by rw [nI_add]) ?_
  refine va_sld hx hb hX hbl (Nat.not_le.mpr hbl) hS (pk_in (i + 1) L (by omega)) d_W_305 ?_
  refine W.eq (g2 := F0 m 306 ls [.int (xs (i + 1)), .ref (b 0)]) (by rw [cl_nI (by omega)]) ?_
  refine lv_aload_n hx hb d_W_306 rfl (lv_at hl 1 rfl) ?_
  have hFc := xq_free (w := lW k b o d g) (va_D_l hD) hS (fun _ h => h)
  refine va_calli (xc_runS (n := 3) (As := [.ref (b 0), .int (xs (i + 1)), .ref o]) (rest := []) ⟨hx, hb, hml, hown, hB⟩ (m_L_save l dC dI k b o _ d g (xs (i + 1)) htr (sim_dOk hSim)) (BIG_good bw_237) rfl rfl rfl ⟨Nat.le_of_ble_eq_true rfl, Nat.le_of_ble_eq_true rfl⟩ (hB _ bw_235) (hB _ bw_236) (hB _ bw_15) ⟨by decide, by decide⟩ (by decide +kernel) (lPc_pre _ (va_P_l hP) hK (va_D_l hD) hTh hCt (keep_new hS)) rfl rfl hl.1 rfl (lv_room (Nat.le_of_ble_eq_true rfl)) d_W_307 ⟨by show cells + 5 ≤ 601024; omega, by show slots + 30 ≤ 7293034; omega⟩) hS (fun q _ h => hFc q h) hFc (fun r7 u t H1 locs ht hvm hw hB1 hz1 hk1 hS => ?_)
  obtain ⟨d2, g2⟩ := u
  obtain ⟨hr7, hd2, hval⟩ := hw
  dsimp only at hval
  have hd2 : d2 = (ySave d (xs (i + 1))).2 := hd2
  have hB2 : va_P (dC, dI) vwC (lW k b o d2 g2) H1 := by rw [← ht]; exact hB1
  rw [hd2] at hB2
  have hP : va_P (dC, dI) vwC (qW k b o a ((ySave d (xs (i + 1))).2) g2 r) H1 := xq_l hP hD hB2 hk1
  have hD : va_D (xA s) (qW k b o a ((ySave d (xs (i + 1))).2) g2 r) := qW_D hDk
  clear hFc hB1 hB2 hk1 hz1 ht hvm
  generalize H1 = H at hP hS ⊢
  subst hr7
  refine W.eq (g2 := F0 m 310 ls [.int (cdOf [qA, qS, qU] (ySave d (xs (i + 1))).1.1)]) (rfl) ?_
  refine lv_istore hx hb d_W_310 hl (by decide) rfl (fun ls hl => ?_)
  have hl : lv_has ls 8 [(5, .int (cdOf [qA, qS, qU] (ySave d (xs (i + 1))).1.1)), (4, .int (nI i)), (3, .ref o), (2, .ref (a 0)), (1, .ref (b 0)), (0, .ref scr)] := hl
  refine lv_aload_n hx hb d_W_312 rfl (lv_at hl 3 rfl) ?_
  refine lv_aload_n hx hb d_W_313 rfl (lv_at hl 5 rfl) ?_
  refine lv_iload hx hb d_W_314 (lv_at hl 1 rfl) ?_
  refine lv_iconst (v := nI 1) hx hb d_W_316 (by decide) ?_
  refine lv_iadd hx hb d_W_317 ?_
  refine W.eq (g2 := F0 m 318 ls [.int (nI (i + 1)), .ref scr, .ref (a 0)]) (by rw [nI_add]) ?_
  refine va_sld hx hb hX hbl (Nat.not_le.mpr hbl) hS (pk_in (i + 1) L (by omega)) d_W_318 ?_
  refine W.eq (g2 := F0 m 319 ls [.int (xs (i + 1)), .ref (a 0)]) (by rw [cl_nI (by omega)]) ?_
  have hFc := xq_free (w := mW k a r) (va_D_r hD) hS (fun _ h => h)
  refine va_calli (va_runV (As := [.int (xs (i + 1))]) (rest := []) ⟨hx, hb, hml, hown, hB⟩ (m_M_save l dC dI k a _ r (xs (i + 1)) (sim_mOk hSim)) (cwV 1 hB (BIG_V bw_415 bw_416 bw_417 bw_18 bw_418) rfl rfl rfl ⟨rfl, by decide, by decide, by decide +kernel⟩ ⟨Nat.le_of_ble_eq_true rfl, Nat.le_of_ble_eq_true rfl⟩) (mPc_pre _ (va_P_r hP) hK (va_D_r hD)) rfl rfl hl.1 rfl (lv_room (Nat.le_of_ble_eq_true rfl)) d_W_319 ⟨by show cells + 5 + 0 ≤ 601024; omega, by show slots + 30 + 0 ≤ 7293034; omega⟩) hS (fun q _ h => hFc q h) hFc (fun r6 u t H1 locs ht hvm hw hB1 hz1 hk1 hS => ?_)
  have h6 : r6 = (zSave r (xs (i + 1))).1 := congrArg Prod.fst hw
  have hu : u = (zSave r (xs (i + 1))).2 := congrArg Prod.snd hw
  have hB2 : va_P (dC, dI) vwC (mW k a u) H1 := by rw [← ht]; exact hB1
  rw [hu] at hB2
  have hP : va_P (dC, dI) vwC (qW k b o a ((ySave d (xs (i + 1))).2) g2 ((zSave r (xs (i + 1))).2)) H1 := xq_r hP hD hB2 hk1
  have hD : va_D (xA s) (qW k b o a ((ySave d (xs (i + 1))).2) g2 ((zSave r (xs (i + 1))).2)) := qW_D hDk
  clear hFc hB1 hB2 hk1 hz1 ht hvm
  generalize H1 = H at hP hS ⊢
  subst h6
  refine W.eq (g2 := F0 m 322 ls [.int ((zSave r (xs (i + 1))).1)]) (rfl) ?_
  refine lv_istore hx hb d_W_322 hl (by decide) rfl (fun ls hl => ?_)
  have hl : lv_has ls 8 [(6, .int ((zSave r (xs (i + 1))).1)), (5, .int (cdOf [qA, qS, qU] (ySave d (xs (i + 1))).1.1)), (4, .int (nI i)), (3, .ref o), (2, .ref (a 0)), (1, .ref (b 0)), (0, .ref scr)] := hl
  refine lv_aload_n hx hb d_W_324 rfl (lv_at hl 4 rfl) ?_
  refine vp_callSi (va_Run.run (va_runV (As := []) (rest := []) ⟨hx, hb, hml, hown, hB⟩ (m_M_thrown l dC dI k a ((zSave r (xs (i + 1))).2)) (cwV 0 hB (BIG_V bw_379 bw_380 bw_381 bw_18 bw_382) rfl rfl rfl ⟨rfl, by decide, by decide, by decide +kernel⟩ ⟨Nat.le_of_ble_eq_true rfl, Nat.le_of_ble_eq_true rfl⟩) (mRc_pre _ (va_P_r hP) hK) rfl rfl hl.1 rfl (lv_room (Nat.le_of_ble_eq_true rfl)) d_W_325 ⟨by show cells + 5 + 0 + 0 ≤ 601024; omega, by show slots + 30 + 0 + 0 ≤ 7293034; omega⟩)) (fun r7 hr7 => ?_)
  subst hr7
  refine W.eq (g2 := F0 m 328 ls [.int (zE ((zSave r (xs (i + 1))).2))]) (rfl) ?_
  have hsim := sim_save hSim (xs (i + 1))
  refine lv_iload hx hb d_W_328 (lv_at hl 1 rfl) ?_
  refine lv_icmp_eq hx hb d_W_330 rfl (fun _ => ?_) (fun h9 => absurd (hsim.1) h9)
  refine lv_iload hx hb d_W_335 (lv_at hl 1 rfl) ?_
  cases he : (ySave d (xs (i + 1))).1.1 with
  | some X =>
    refine lv_if_ne hx hb d_W_337 rfl (fun _ => ?_) (fun h9 => absurd h9 (cd_ne (by decide)))
    refine lv_goto hx hb d_W_352 rfl ?_
    exact kk H _ ls _ _ _ ⟨hl.1, hl.2.1, fun q hq => hl.2.2 q (by simp only [List.mem_cons, List.not_mem_nil, or_false] at hq ⊢; rcases hq with h | h | h | h | h <;> simp [h])⟩ hP hD hS (Sim.wide hsim.2.1 (fun _ _ => Nat.le_succ _))
  | none =>
    refine lv_if_ne hx hb d_W_337 rfl (fun h9 => absurd h9 (fun q => q rfl)) (fun _ => ?_)
    refine lv_aload_n hx hb d_W_340 rfl (lv_at hl 3 rfl) ?_
    refine lv_iconst (v := nI 0) hx hb d_W_341 (by decide) ?_
    refine va_lald hx hb hK hP 0 1 rfl rfl (pk_in 0 1 (by omega)) d_W_342 ?_
    refine W.eq (g2 := F0 m 343 ls [.long (g2 0)]) (by rw [cl_nI (by omega)]) ?_
    refine lv_iload hx hb d_W_343 (lv_at hl 0 rfl) ?_
    refine lv_i2l hx hb d_W_345 rfl ?_
    refine W.lcmp hx hb d_W_346 ?_
    refine lv_if_eq hx hb d_W_347 rfl (fun _ => ?_) (fun h9 => absurd (by rw [hval he, hsim.2.2 he]; exact lg_cmp_self _) h9)
    refine lv_goto hx hb d_W_352 rfl ?_
    exact kk H _ ls _ _ _ ⟨hl.1, hl.2.1, fun q hq => hl.2.2 q (by simp only [List.mem_cons, List.not_mem_nil, or_false] at hq ⊢; rcases hq with h | h | h | h | h <;> simp [h])⟩ hP hD hS (Sim.wide hsim.2.1 (fun _ _ => Nat.le_succ _))
set_option maxHeartbeats 4000000 in
set_option maxRecDepth 100000 in
theorem arm_4 {p : Program} {e : Env} {s : State} {m : MethodId} {below : List Frame} {meth : Method} {c : Code} {Q : State → Prop} (l : Launch) {scr L : Nat} {xs : Nat → Int32} (hx : p.tables.exec = Jvm.exec) (hb : c.code = code) (hml : c.maxLocals = 8) (hown : s.vm.findClass R_L = some m.cls) (hB : ∀ w ∈ BIG, w.before #[Value.ref scr] s = true) (hX : va_X scr L xs s s.heap) (hbl : scr < s.heap.size) {dC : Nat → ClassId} {dI : Nat → Nat → Nat} {k : Nat → ClassId} (hK : va_K (dC, dI) vwC (kT k) s) (hTh : xTh s) (hCt : xCt s) (htr : l.stackTraces = false) {b : Nat → Nat} {o : Nat} {a : Nat → Nat} {d : xDS} {g : Nat → Int64} {r : xRS} {n i : Nat} {H : Heap} {locs : List Loc} {ls : Array Slot} {cells slots : Nat} (hL : L ≤ 2560) (hi : i + 5 ≤ L) (hn : n < 2560) (hce : cells + 5 ≤ 601024) (hsl : slots + 30 ≤ 7293034) (hl : lv_has ls 8 [(4, .int (nI i)), (3, .ref o), (2, .ref (a 0)), (1, .ref (b 0)), (0, .ref scr)]) (hP : va_P (dC, dI) vwC (qW k b o a d g r) H) (hD : va_D (xA s) (qW k b o a d g r)) (hS : va_S (xA s) s.heap H locs) (hSim : Sim (fun _ => n) d r) (kk : ∀ (H : Heap) (locs : List Loc) (ls : Array Slot) (d : xDS) (g : Nat → Int64) (r : xRS), lv_has ls 8 [(4, .int (nI i)), (3, .ref o), (2, .ref (a 0)), (1, .ref (b 0)), (0, .ref scr)] → va_P (dC, dI) vwC (qW k b o a d g r) H → va_D (xA s) (qW k b o a d g r) → va_S (xA s) s.heap H locs → Sim (fun _ => n + 1) d r → W p l e room_1 s m #[Value.ref scr] below meth c H locs (cells + 5) (slots + 30) Q (F0 m 841 ls [])) : W p l e room_1 s m #[Value.ref scr] below meth c H locs cells slots Q (F0 m 355 ls []) := by
  have hDk := hD
  refine lv_aload_n hx hb d_W_355 rfl (lv_at hl 3 rfl) ?_
  refine lv_aload_n hx hb d_W_356 rfl (lv_at hl 4 rfl) ?_
  refine lv_iload hx hb d_W_357 (lv_at hl 0 rfl) ?_
  refine lv_iconst (v := nI 1) hx hb d_W_359 (by decide) ?_
  refine lv_iadd hx hb d_W_360 ?_
  refine W.eq (g2 := F0 m 361 ls [.int (nI (i + 1)), .ref scr, .ref (b 0)]) (by rw [nI_add]) ?_
  refine va_sld hx hb hX hbl (Nat.not_le.mpr hbl) hS (pk_in (i + 1) L (by omega)) d_W_361 ?_
  refine W.eq (g2 := F0 m 362 ls [.int (xs (i + 1)), .ref (b 0)]) (by rw [cl_nI (by omega)]) ?_
  have hFc := xq_free (w := lW k b o d g) (va_D_l hD) hS (fun _ h => h)
  refine va_calli (xc_runS (n := 2) (As := [.ref (b 0), .int (xs (i + 1))]) (rest := []) ⟨hx, hb, hml, hown, hB⟩ (m_L_back l dC dI k b o _ d g (xs (i + 1)) htr (sim_dOk hSim)) (BIG_good bw_252) rfl rfl rfl ⟨Nat.le_of_ble_eq_true rfl, Nat.le_of_ble_eq_true rfl⟩ (hB _ bw_250) (hB _ bw_251) (hB _ bw_15) ⟨by decide, by decide⟩ (by decide +kernel) (lPc_pre _ (va_P_l hP) hK (va_D_l hD) hTh hCt (keep_new hS)) rfl rfl hl.1 rfl (lv_room (Nat.le_of_ble_eq_true rfl)) d_W_362 ⟨by show cells + 5 ≤ 601024; omega, by show slots + 30 ≤ 7293034; omega⟩) hS (fun q _ h => hFc q h) hFc (fun r7 u t H1 locs ht hvm hw hB1 hz1 hk1 hS => ?_)
  obtain ⟨d2, g2⟩ := u
  obtain ⟨hr7, hd2⟩ := hw
  have hd2 : d2 = (yBack d (xs (i + 1))).2 := hd2
  have hB2 : va_P (dC, dI) vwC (lW k b o d2 g2) H1 := by rw [← ht]; exact hB1
  rw [hd2] at hB2
  have hP : va_P (dC, dI) vwC (qW k b o a ((yBack d (xs (i + 1))).2) g2 r) H1 := xq_l hP hD hB2 hk1
  have hD : va_D (xA s) (qW k b o a ((yBack d (xs (i + 1))).2) g2 r) := qW_D hDk
  clear hFc hB1 hB2 hk1 hz1 ht hvm
  generalize H1 = H at hP hS ⊢
  subst hr7
  refine W.eq (g2 := F0 m 365 ls [.int (cdOf [qA, qS, qU] (yBack d (xs (i + 1))).1)]) (rfl) ?_
  refine lv_istore hx hb d_W_365 hl (by decide) rfl (fun ls hl => ?_)
  have hl : lv_has ls 8 [(5, .int (cdOf [qA, qS, qU] (yBack d (xs (i + 1))).1)), (4, .int (nI i)), (3, .ref o), (2, .ref (a 0)), (1, .ref (b 0)), (0, .ref scr)] := hl
  refine lv_aload_n hx hb d_W_367 rfl (lv_at hl 3 rfl) ?_
  refine lv_aload_n hx hb d_W_368 rfl (lv_at hl 5 rfl) ?_
  refine lv_iload hx hb d_W_369 (lv_at hl 1 rfl) ?_
  refine lv_iconst (v := nI 1) hx hb d_W_371 (by decide) ?_
  refine lv_iadd hx hb d_W_372 ?_
  refine W.eq (g2 := F0 m 373 ls [.int (nI (i + 1)), .ref scr, .ref (a 0)]) (by rw [nI_add]) ?_
  refine va_sld hx hb hX hbl (Nat.not_le.mpr hbl) hS (pk_in (i + 1) L (by omega)) d_W_373 ?_
  refine W.eq (g2 := F0 m 374 ls [.int (xs (i + 1)), .ref (a 0)]) (by rw [cl_nI (by omega)]) ?_
  have hFc := xq_free (w := mW k a r) (va_D_r hD) hS (fun _ h => h)
  refine va_callv (va_runV (As := [.int (xs (i + 1))]) (rest := []) ⟨hx, hb, hml, hown, hB⟩ (m_M_back l dC dI k a _ r (xs (i + 1)) (sim_mOk hSim)) (cwV 1 hB (BIG_V bw_422 bw_423 bw_424 bw_18 bw_425) rfl rfl rfl ⟨rfl, by decide, by decide, by decide +kernel⟩ ⟨Nat.le_of_ble_eq_true rfl, Nat.le_of_ble_eq_true rfl⟩) (mPc_pre _ (va_P_r hP) hK (va_D_r hD)) rfl rfl hl.1 rfl (lv_room (Nat.le_of_ble_eq_true rfl)) d_W_374 ⟨by show cells + 5 + 0 ≤ 601024; omega, by show slots + 30 + 0 ≤ 7293034; omega⟩) hS (fun q _ h => hFc q h) hFc (fun u t H1 locs ht hvm hw hB1 hz1 hk1 hS => ?_)
  have hu : u = (zBack r (xs (i + 1))) := hw
  have hB2 : va_P (dC, dI) vwC (mW k a u) H1 := by rw [← ht]; exact hB1
  rw [hu] at hB2
  have hP : va_P (dC, dI) vwC (qW k b o a ((yBack d (xs (i + 1))).2) g2 (zBack r (xs (i + 1)))) H1 := xq_r hP hD hB2 hk1
  have hD : va_D (xA s) (qW k b o a ((yBack d (xs (i + 1))).2) g2 (zBack r (xs (i + 1)))) := qW_D hDk
  clear hFc hB1 hB2 hk1 hz1 ht hvm
  generalize H1 = H at hP hS ⊢
  refine lv_aload_n hx hb d_W_377 rfl (lv_at hl 3 rfl) ?_
  refine vp_callSi (va_Run.run (va_runV (As := []) (rest := []) ⟨hx, hb, hml, hown, hB⟩ (m_M_thrown l dC dI k a (zBack r (xs (i + 1)))) (cwV 0 hB (BIG_V bw_379 bw_380 bw_381 bw_18 bw_382) rfl rfl rfl ⟨rfl, by decide, by decide, by decide +kernel⟩ ⟨Nat.le_of_ble_eq_true rfl, Nat.le_of_ble_eq_true rfl⟩) (mRc_pre _ (va_P_r hP) hK) rfl rfl hl.1 rfl (lv_room (Nat.le_of_ble_eq_true rfl)) d_W_378 ⟨by show cells + 5 + 0 + 0 ≤ 601024; omega, by show slots + 30 + 0 + 0 ≤ 7293034; omega⟩)) (fun r7 hr7 => ?_)
  subst hr7
  refine W.eq (g2 := F0 m 381 ls [.int (zE (zBack r (xs (i + 1))))]) (rfl) ?_
  have hsim := sim_back hSim (xs (i + 1))
  refine lv_iload hx hb d_W_381 (lv_at hl 0 rfl) ?_
  refine lv_icmp_eq hx hb d_W_383 rfl (fun _ => ?_) (fun h9 => absurd (hsim.1) h9)
  refine lv_goto hx hb d_W_388 rfl ?_
  exact kk H _ ls _ _ _ ⟨hl.1, hl.2.1, fun q hq => hl.2.2 q (by simp only [List.mem_cons, List.not_mem_nil, or_false] at hq ⊢; rcases hq with h | h | h | h | h <;> simp [h])⟩ hP hD hS (Sim.wide hsim.2 (fun _ _ => Nat.le_succ _))
set_option maxHeartbeats 4000000 in
set_option maxRecDepth 100000 in
theorem arm_5 {p : Program} {e : Env} {s : State} {m : MethodId} {below : List Frame} {meth : Method} {c : Code} {Q : State → Prop} (l : Launch) {scr L : Nat} {xs : Nat → Int32} (hx : p.tables.exec = Jvm.exec) (hb : c.code = code) (hml : c.maxLocals = 8) (hown : s.vm.findClass R_L = some m.cls) (hB : ∀ w ∈ BIG, w.before #[Value.ref scr] s = true) (hX : va_X scr L xs s s.heap) (hbl : scr < s.heap.size) {dC : Nat → ClassId} {dI : Nat → Nat → Nat} {k : Nat → ClassId} (hK : va_K (dC, dI) vwC (kT k) s) (hTh : xTh s) (hCt : xCt s) (htr : l.stackTraces = false) {b : Nat → Nat} {o : Nat} {a : Nat → Nat} {d : xDS} {g : Nat → Int64} {r : xRS} {n i : Nat} {H : Heap} {locs : List Loc} {ls : Array Slot} {cells slots : Nat} (hL : L ≤ 2560) (hi : i + 5 ≤ L) (hn : n < 2560) (hce : cells + 5 ≤ 601024) (hsl : slots + 30 ≤ 7293034) (hl : lv_has ls 8 [(4, .int (nI i)), (3, .ref o), (2, .ref (a 0)), (1, .ref (b 0)), (0, .ref scr)]) (hP : va_P (dC, dI) vwC (qW k b o a d g r) H) (hD : va_D (xA s) (qW k b o a d g r)) (hS : va_S (xA s) s.heap H locs) (hSim : Sim (fun _ => n) d r) (kk : ∀ (H : Heap) (locs : List Loc) (ls : Array Slot) (d : xDS) (g : Nat → Int64) (r : xRS), lv_has ls 8 [(4, .int (nI i)), (3, .ref o), (2, .ref (a 0)), (1, .ref (b 0)), (0, .ref scr)] → va_P (dC, dI) vwC (qW k b o a d g r) H → va_D (xA s) (qW k b o a d g r) → va_S (xA s) s.heap H locs → Sim (fun _ => n + 1) d r → W p l e room_1 s m #[Value.ref scr] below meth c H locs (cells + 5) (slots + 30) Q (F0 m 841 ls [])) : W p l e room_1 s m #[Value.ref scr] below meth c H locs cells slots Q (F0 m 391 ls []) := by
  have hDk := hD
  refine lv_aload_n hx hb d_W_391 rfl (lv_at hl 3 rfl) ?_
  refine lv_aload_n hx hb d_W_392 rfl (lv_at hl 4 rfl) ?_
  refine lv_iload hx hb d_W_393 (lv_at hl 0 rfl) ?_
  refine lv_iconst (v := nI 1) hx hb d_W_395 (by decide) ?_
  refine lv_iadd hx hb d_W_396 ?_
  refine W.eq (g2 := F0 m 397 ls [.int (nI (i + 1)), .ref scr, .ref (b 0)]) (by rw [nI_add]) ?_
  refine va_sld hx hb hX hbl (Nat.not_le.mpr hbl) hS (pk_in (i + 1) L (by omega)) d_W_397 ?_
  refine W.eq (g2 := F0 m 398 ls [.int (xs (i + 1)), .ref (b 0)]) (by rw [cl_nI (by omega)]) ?_
  have hFc := xq_free (w := lW k b o d g) (va_D_l hD) hS (fun _ h => h)
  refine va_calli (xc_runS (n := 2) (As := [.ref (b 0), .int (xs (i + 1))]) (rest := []) ⟨hx, hb, hml, hown, hB⟩ (m_L_keep l dC dI k b o _ d g (xs (i + 1)) htr (sim_dOk hSim)) (BIG_good bw_266) rfl rfl rfl ⟨Nat.le_of_ble_eq_true rfl, Nat.le_of_ble_eq_true rfl⟩ (hB _ bw_264) (hB _ bw_265) (hB _ bw_15) ⟨by decide, by decide⟩ (by decide +kernel) (lPc_pre _ (va_P_l hP) hK (va_D_l hD) hTh hCt (keep_new hS)) rfl rfl hl.1 rfl (lv_room (Nat.le_of_ble_eq_true rfl)) d_W_398 ⟨by show cells + 5 ≤ 601024; omega, by show slots + 30 ≤ 7293034; omega⟩) hS (fun q _ h => hFc q h) hFc (fun r7 u t H1 locs ht hvm hw hB1 hz1 hk1 hS => ?_)
  obtain ⟨d2, g2⟩ := u
  obtain ⟨hr7, hd2⟩ := hw
  have hd2 : d2 = (yKeep d (xs (i + 1))).2 := hd2
  have hB2 : va_P (dC, dI) vwC (lW k b o d2 g2) H1 := by rw [← ht]; exact hB1
  rw [hd2] at hB2
  have hP : va_P (dC, dI) vwC (qW k b o a ((yKeep d (xs (i + 1))).2) g2 r) H1 := xq_l hP hD hB2 hk1
  have hD : va_D (xA s) (qW k b o a ((yKeep d (xs (i + 1))).2) g2 r) := qW_D hDk
  clear hFc hB1 hB2 hk1 hz1 ht hvm
  generalize H1 = H at hP hS ⊢
  subst hr7
  refine W.eq (g2 := F0 m 401 ls [.int (cdOf [qA, qS, qU] (yKeep d (xs (i + 1))).1)]) (rfl) ?_
  refine lv_istore hx hb d_W_401 hl (by decide) rfl (fun ls hl => ?_)
  have hl : lv_has ls 8 [(5, .int (cdOf [qA, qS, qU] (yKeep d (xs (i + 1))).1)), (4, .int (nI i)), (3, .ref o), (2, .ref (a 0)), (1, .ref (b 0)), (0, .ref scr)] := hl
  refine lv_aload_n hx hb d_W_403 rfl (lv_at hl 3 rfl) ?_
  refine lv_aload_n hx hb d_W_404 rfl (lv_at hl 5 rfl) ?_
  refine lv_iload hx hb d_W_405 (lv_at hl 1 rfl) ?_
  refine lv_iconst (v := nI 1) hx hb d_W_407 (by decide) ?_
  refine lv_iadd hx hb d_W_408 ?_
  refine W.eq (g2 := F0 m 409 ls [.int (nI (i + 1)), .ref scr, .ref (a 0)]) (by rw [nI_add]) ?_
  refine va_sld hx hb hX hbl (Nat.not_le.mpr hbl) hS (pk_in (i + 1) L (by omega)) d_W_409 ?_
  refine W.eq (g2 := F0 m 410 ls [.int (xs (i + 1)), .ref (a 0)]) (by rw [cl_nI (by omega)]) ?_
  have hFc := xq_free (w := mW k a r) (va_D_r hD) hS (fun _ h => h)
  refine va_callv (va_runV (As := [.int (xs (i + 1))]) (rest := []) ⟨hx, hb, hml, hown, hB⟩ (m_M_keep l dC dI k a _ r (xs (i + 1)) (sim_mOk hSim)) (cwV 1 hB (BIG_V bw_426 bw_427 bw_428 bw_18 bw_429) rfl rfl rfl ⟨rfl, by decide, by decide, by decide +kernel⟩ ⟨Nat.le_of_ble_eq_true rfl, Nat.le_of_ble_eq_true rfl⟩) (mPc_pre _ (va_P_r hP) hK (va_D_r hD)) rfl rfl hl.1 rfl (lv_room (Nat.le_of_ble_eq_true rfl)) d_W_410 ⟨by show cells + 5 + 0 ≤ 601024; omega, by show slots + 30 + 0 ≤ 7293034; omega⟩) hS (fun q _ h => hFc q h) hFc (fun u t H1 locs ht hvm hw hB1 hz1 hk1 hS => ?_)
  have hu : u = (zKeep r (xs (i + 1))) := hw
  have hB2 : va_P (dC, dI) vwC (mW k a u) H1 := by rw [← ht]; exact hB1
  rw [hu] at hB2
  have hP : va_P (dC, dI) vwC (qW k b o a ((yKeep d (xs (i + 1))).2) g2 (zKeep r (xs (i + 1)))) H1 := xq_r hP hD hB2 hk1
  have hD : va_D (xA s) (qW k b o a ((yKeep d (xs (i + 1))).2) g2 (zKeep r (xs (i + 1)))) := qW_D hDk
  clear hFc hB1 hB2 hk1 hz1 ht hvm
  generalize H1 = H at hP hS ⊢
  refine lv_aload_n hx hb d_W_413 rfl (lv_at hl 3 rfl) ?_
  refine vp_callSi (va_Run.run (va_runV (As := []) (rest := []) ⟨hx, hb, hml, hown, hB⟩ (m_M_thrown l dC dI k a (zKeep r (xs (i + 1)))) (cwV 0 hB (BIG_V bw_379 bw_380 bw_381 bw_18 bw_382) rfl rfl rfl ⟨rfl, by decide, by decide, by decide +kernel⟩ ⟨Nat.le_of_ble_eq_true rfl, Nat.le_of_ble_eq_true rfl⟩) (mRc_pre _ (va_P_r hP) hK) rfl rfl hl.1 rfl (lv_room (Nat.le_of_ble_eq_true rfl)) d_W_414 ⟨by show cells + 5 + 0 + 0 ≤ 601024; omega, by show slots + 30 + 0 + 0 ≤ 7293034; omega⟩)) (fun r7 hr7 => ?_)
  subst hr7
  refine W.eq (g2 := F0 m 417 ls [.int (zE (zKeep r (xs (i + 1))))]) (rfl) ?_
  have hsim := sim_keep hSim (xs (i + 1))
  refine lv_iload hx hb d_W_417 (lv_at hl 0 rfl) ?_
  refine lv_icmp_eq hx hb d_W_419 rfl (fun _ => ?_) (fun h9 => absurd (hsim.1) h9)
  refine lv_goto hx hb d_W_424 rfl ?_
  exact kk H _ ls _ _ _ ⟨hl.1, hl.2.1, fun q hq => hl.2.2 q (by simp only [List.mem_cons, List.not_mem_nil, or_false] at hq ⊢; rcases hq with h | h | h | h | h <;> simp [h])⟩ hP hD hS (Sim.wide hsim.2 (fun _ _ => Nat.le_succ _))
set_option maxHeartbeats 4000000 in
set_option maxRecDepth 100000 in
theorem arm_6 {p : Program} {e : Env} {s : State} {m : MethodId} {below : List Frame} {meth : Method} {c : Code} {Q : State → Prop} (l : Launch) {scr L : Nat} {xs : Nat → Int32} (hx : p.tables.exec = Jvm.exec) (hb : c.code = code) (hml : c.maxLocals = 8) (hown : s.vm.findClass R_L = some m.cls) (hB : ∀ w ∈ BIG, w.before #[Value.ref scr] s = true) (hX : va_X scr L xs s s.heap) (hbl : scr < s.heap.size) {dC : Nat → ClassId} {dI : Nat → Nat → Nat} {k : Nat → ClassId} (hK : va_K (dC, dI) vwC (kT k) s) (hTh : xTh s) (hCt : xCt s) (htr : l.stackTraces = false) {b : Nat → Nat} {o : Nat} {a : Nat → Nat} {d : xDS} {g : Nat → Int64} {r : xRS} {n i : Nat} {H : Heap} {locs : List Loc} {ls : Array Slot} {cells slots : Nat} (hL : L ≤ 2560) (hi : i + 5 ≤ L) (hn : n < 2560) (hce : cells + 5 ≤ 601024) (hsl : slots + 30 ≤ 7293034) (hl : lv_has ls 8 [(4, .int (nI i)), (3, .ref o), (2, .ref (a 0)), (1, .ref (b 0)), (0, .ref scr)]) (hP : va_P (dC, dI) vwC (qW k b o a d g r) H) (hD : va_D (xA s) (qW k b o a d g r)) (hS : va_S (xA s) s.heap H locs) (hSim : Sim (fun _ => n) d r) (kk : ∀ (H : Heap) (locs : List Loc) (ls : Array Slot) (d : xDS) (g : Nat → Int64) (r : xRS), lv_has ls 8 [(4, .int (nI i)), (3, .ref o), (2, .ref (a 0)), (1, .ref (b 0)), (0, .ref scr)] → va_P (dC, dI) vwC (qW k b o a d g r) H → va_D (xA s) (qW k b o a d g r) → va_S (xA s) s.heap H locs → Sim (fun _ => n + 1) d r → W p l e room_1 s m #[Value.ref scr] below meth c H locs (cells + 5) (slots + 30) Q (F0 m 841 ls [])) : W p l e room_1 s m #[Value.ref scr] below meth c H locs cells slots Q (F0 m 427 ls []) := by
  have hDk := hD
  refine lv_aload_n hx hb d_W_427 rfl (lv_at hl 3 rfl) ?_
  refine lv_aload_n hx hb d_W_428 rfl (lv_at hl 4 rfl) ?_
  refine lv_iload hx hb d_W_429 (lv_at hl 0 rfl) ?_
  refine lv_iconst (v := nI 1) hx hb d_W_431 (by decide) ?_
  refine lv_iadd hx hb d_W_432 ?_
  refine W.eq (g2 := F0 m 433 ls [.int (nI (i + 1)), .ref scr, .ref (b 0)]) (by rw [nI_add]) ?_
  refine va_sld hx hb hX hbl (Nat.not_le.mpr hbl) hS (pk_in (i + 1) L (by omega)) d_W_433 ?_
  refine W.eq (g2 := F0 m 434 ls [.int (xs (i + 1)), .ref (b 0)]) (by rw [cl_nI (by omega)]) ?_
  refine lv_aload_n hx hb d_W_434 rfl (lv_at hl 1 rfl) ?_
  have hFc := xq_free (w := lW k b o d g) (va_D_l hD) hS (fun _ h => h)
  refine va_calli (xc_runS (n := 3) (As := [.ref (b 0), .int (xs (i + 1)), .ref o]) (rest := []) ⟨hx, hb, hml, hown, hB⟩ (m_L_done l dC dI k b o _ d g (xs (i + 1)) htr (sim_dOk hSim)) (BIG_good bw_278) rfl rfl rfl ⟨Nat.le_of_ble_eq_true rfl, Nat.le_of_ble_eq_true rfl⟩ (hB _ bw_276) (hB _ bw_277) (hB _ bw_15) ⟨by decide, by decide⟩ (by decide +kernel) (lPc_pre _ (va_P_l hP) hK (va_D_l hD) hTh hCt (keep_new hS)) rfl rfl hl.1 rfl (lv_room (Nat.le_of_ble_eq_true rfl)) d_W_435 ⟨by show cells + 5 ≤ 601024; omega, by show slots + 30 ≤ 7293034; omega⟩) hS (fun q _ h => hFc q h) hFc (fun r7 u t H1 locs ht hvm hw hB1 hz1 hk1 hS => ?_)
  obtain ⟨d2, g2⟩ := u
  obtain ⟨hr7, hd2, hval⟩ := hw
  dsimp only at hval
  have hd2 : d2 = (yDone d (xs (i + 1))).2 := hd2
  have hB2 : va_P (dC, dI) vwC (lW k b o d2 g2) H1 := by rw [← ht]; exact hB1
  rw [hd2] at hB2
  have hP : va_P (dC, dI) vwC (qW k b o a ((yDone d (xs (i + 1))).2) g2 r) H1 := xq_l hP hD hB2 hk1
  have hD : va_D (xA s) (qW k b o a ((yDone d (xs (i + 1))).2) g2 r) := qW_D hDk
  clear hFc hB1 hB2 hk1 hz1 ht hvm
  generalize H1 = H at hP hS ⊢
  subst hr7
  refine W.eq (g2 := F0 m 438 ls [.int (cdOf [qA, qS] (yDone d (xs (i + 1))).1.1)]) (rfl) ?_
  refine lv_istore hx hb d_W_438 hl (by decide) rfl (fun ls hl => ?_)
  have hl : lv_has ls 8 [(5, .int (cdOf [qA, qS] (yDone d (xs (i + 1))).1.1)), (4, .int (nI i)), (3, .ref o), (2, .ref (a 0)), (1, .ref (b 0)), (0, .ref scr)] := hl
  refine lv_aload_n hx hb d_W_440 rfl (lv_at hl 3 rfl) ?_
  refine lv_aload_n hx hb d_W_441 rfl (lv_at hl 5 rfl) ?_
  refine lv_iload hx hb d_W_442 (lv_at hl 1 rfl) ?_
  refine lv_iconst (v := nI 1) hx hb d_W_444 (by decide) ?_
  refine lv_iadd hx hb d_W_445 ?_
  refine W.eq (g2 := F0 m 446 ls [.int (nI (i + 1)), .ref scr, .ref (a 0)]) (by rw [nI_add]) ?_
  refine va_sld hx hb hX hbl (Nat.not_le.mpr hbl) hS (pk_in (i + 1) L (by omega)) d_W_446 ?_
  refine W.eq (g2 := F0 m 447 ls [.int (xs (i + 1)), .ref (a 0)]) (by rw [cl_nI (by omega)]) ?_
  have hFc := xq_free (w := mW k a r) (va_D_r hD) hS (fun _ h => h)
  refine va_calli (va_runV (As := [.int (xs (i + 1))]) (rest := []) ⟨hx, hb, hml, hown, hB⟩ (m_M_done l dC dI k a _ r (xs (i + 1)) (sim_mOk hSim)) (cwV 1 hB (BIG_V bw_430 bw_431 bw_432 bw_18 bw_433) rfl rfl rfl ⟨rfl, by decide, by decide, by decide +kernel⟩ ⟨Nat.le_of_ble_eq_true rfl, Nat.le_of_ble_eq_true rfl⟩) (mPc_pre _ (va_P_r hP) hK (va_D_r hD)) rfl rfl hl.1 rfl (lv_room (Nat.le_of_ble_eq_true rfl)) d_W_447 ⟨by show cells + 5 + 0 ≤ 601024; omega, by show slots + 30 + 0 ≤ 7293034; omega⟩) hS (fun q _ h => hFc q h) hFc (fun r6 u t H1 locs ht hvm hw hB1 hz1 hk1 hS => ?_)
  obtain ⟨b6, h6, hw⟩ := hw
  have hb6 : b6 = (zDone r (xs (i + 1))).1 := congrArg Prod.fst hw
  have hu : u = (zDone r (xs (i + 1))).2 := congrArg Prod.snd hw
  have hB2 : va_P (dC, dI) vwC (mW k a u) H1 := by rw [← ht]; exact hB1
  rw [hu] at hB2
  have hP : va_P (dC, dI) vwC (qW k b o a ((yDone d (xs (i + 1))).2) g2 ((zDone r (xs (i + 1))).2)) H1 := xq_r hP hD hB2 hk1
  have hD : va_D (xA s) (qW k b o a ((yDone d (xs (i + 1))).2) g2 ((zDone r (xs (i + 1))).2)) := qW_D hDk
  clear hFc hB1 hB2 hk1 hz1 ht hvm
  generalize H1 = H at hP hS ⊢
  subst h6
  subst hb6
  refine W.eq (g2 := F0 m 450 ls [.int (bI (zDone r (xs (i + 1))).1)]) (rfl) ?_
  refine lv_istore hx hb d_W_450 hl (by decide) rfl (fun ls hl => ?_)
  have hl : lv_has ls 8 [(6, .int (bI (zDone r (xs (i + 1))).1)), (5, .int (cdOf [qA, qS] (yDone d (xs (i + 1))).1.1)), (4, .int (nI i)), (3, .ref o), (2, .ref (a 0)), (1, .ref (b 0)), (0, .ref scr)] := hl
  refine lv_aload_n hx hb d_W_452 rfl (lv_at hl 4 rfl) ?_
  refine vp_callSi (va_Run.run (va_runV (As := []) (rest := []) ⟨hx, hb, hml, hown, hB⟩ (m_M_thrown l dC dI k a ((zDone r (xs (i + 1))).2)) (cwV 0 hB (BIG_V bw_379 bw_380 bw_381 bw_18 bw_382) rfl rfl rfl ⟨rfl, by decide, by decide, by decide +kernel⟩ ⟨Nat.le_of_ble_eq_true rfl, Nat.le_of_ble_eq_true rfl⟩) (mRc_pre _ (va_P_r hP) hK) rfl rfl hl.1 rfl (lv_room (Nat.le_of_ble_eq_true rfl)) d_W_453 ⟨by show cells + 5 + 0 + 0 ≤ 601024; omega, by show slots + 30 + 0 + 0 ≤ 7293034; omega⟩)) (fun r7 hr7 => ?_)
  subst hr7
  refine W.eq (g2 := F0 m 456 ls [.int (zE ((zDone r (xs (i + 1))).2))]) (rfl) ?_
  have hsim := sim_done hSim (fun _ _ => by omega) (xs (i + 1))
  refine lv_iload hx hb d_W_456 (lv_at hl 1 rfl) ?_
  refine lv_icmp_eq hx hb d_W_458 rfl (fun _ => ?_) (fun h9 => absurd (hsim.1) h9)
  refine lv_iload hx hb d_W_463 (lv_at hl 1 rfl) ?_
  cases he : (yDone d (xs (i + 1))).1.1 with
  | some X =>
    refine lv_if_ne hx hb d_W_465 rfl (fun _ => ?_) (fun h9 => absurd h9 (cd_ne (by decide)))
    refine lv_goto hx hb d_W_487 rfl ?_
    exact kk H _ ls _ _ _ ⟨hl.1, hl.2.1, fun q hq => hl.2.2 q (by simp only [List.mem_cons, List.not_mem_nil, or_false] at hq ⊢; rcases hq with h | h | h | h | h <;> simp [h])⟩ hP hD hS (hsim.2.1)
  | none =>
    refine lv_if_ne hx hb d_W_465 rfl (fun h9 => absurd h9 (fun q => q rfl)) (fun _ => ?_)
    refine lv_aload_n hx hb d_W_468 rfl (lv_at hl 3 rfl) ?_
    refine lv_iconst (v := nI 0) hx hb d_W_469 (by decide) ?_
    refine va_lald hx hb hK hP 0 1 rfl rfl (pk_in 0 1 (by omega)) d_W_470 ?_
    refine W.eq (g2 := F0 m 471 ls [.long (g2 0)]) (by rw [cl_nI (by omega)]) ?_
    refine lv_iload hx hb d_W_471 (lv_at hl 0 rfl) ?_
    have hv9 : g2 0 = if (zDone r (xs (i + 1))).1 = true then 1 else 0 := by rw [hval he, hsim.2.2 he]
    cases hz : (zDone r (xs (i + 1))).1 with
    | true =>
      rw [hz] at hv9
      refine lv_if_eq hx hb d_W_473 rfl (fun h9 => absurd h9 (by decide)) (fun _ => ?_)
      refine lv_lconst (v := 1) hx hb d_W_476 (by decide) ?_
      refine lv_goto hx hb d_W_477 rfl ?_
      refine W.lcmp hx hb d_W_481 ?_
      refine lv_if_eq hx hb d_W_482 rfl (fun _ => ?_) (fun h9 => absurd (by rw [hv9]; exact lg_cmp_self _) h9)
      refine lv_goto hx hb d_W_487 rfl ?_
      exact kk H _ ls _ _ _ ⟨hl.1, hl.2.1, fun q hq => hl.2.2 q (by simp only [List.mem_cons, List.not_mem_nil, or_false] at hq ⊢; rcases hq with h | h | h | h | h <;> simp [h])⟩ hP hD hS (hsim.2.1)
    | false =>
      rw [hz] at hv9
      refine lv_if_eq hx hb d_W_473 rfl (fun _ => ?_) (fun h9 => absurd (by decide) h9)
      refine lv_lconst (v := 0) hx hb d_W_480 (by decide) ?_
      refine W.lcmp hx hb d_W_481 ?_
      refine lv_if_eq hx hb d_W_482 rfl (fun _ => ?_) (fun h9 => absurd (by rw [hv9]; exact lg_cmp_self _) h9)
      refine lv_goto hx hb d_W_487 rfl ?_
      exact kk H _ ls _ _ _ ⟨hl.1, hl.2.1, fun q hq => hl.2.2 q (by simp only [List.mem_cons, List.not_mem_nil, or_false] at hq ⊢; rcases hq with h | h | h | h | h <;> simp [h])⟩ hP hD hS (hsim.2.1)
