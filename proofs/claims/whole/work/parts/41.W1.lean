/-! The law: an arm a call. -/
abbrev xA (s : State) : Nat → Prop := fun q => s.heap.size ≤ q
theorem keep_new {s : State} {H : Heap} {locs : List Loc} (hS : va_S (xA s) s.heap H locs) : xs_keep s.heap H := xs_keep.of hS (fun q _ hq hc => absurd (Array.getElem?_eq_some_iff.mp hc).1 (Nat.not_lt.mpr hq))
set_option maxHeartbeats 4000000 in
set_option maxRecDepth 100000 in
theorem arm_0 {p : Program} {e : Env} {s : State} {m : MethodId} {below : List Frame} {meth : Method} {c : Code} {Q : State → Prop} (l : Launch) {scr L : Nat} {xs : Nat → Int32} (hx : p.tables.exec = Jvm.exec) (hb : c.code = code) (hml : c.maxLocals = 8) (hown : s.vm.findClass R_L = some m.cls) (hB : ∀ w ∈ BIG, w.before #[Value.ref scr] s = true) (hX : va_X scr L xs s s.heap) (hbl : scr < s.heap.size) {dC : Nat → ClassId} {dI : Nat → Nat → Nat} {k : Nat → ClassId} (hK : va_K (dC, dI) vwC (kT k) s) (hTh : xTh s) (hCt : xCt s) (htr : l.stackTraces = false) {b : Nat → Nat} {o : Nat} {a : Nat → Nat} {d : xDS} {g : Nat → Int64} {r : xRS} {n i : Nat} {H : Heap} {locs : List Loc} {ls : Array Slot} {cells slots : Nat} (hL : L ≤ 2560) (hi : i + 5 ≤ L) (hn : n < 2560) (hce : cells + 5 ≤ 601024) (hsl : slots + 30 ≤ 7293034) (hl : lv_has ls 8 [(4, .int (nI i)), (3, .ref o), (2, .ref (a 0)), (1, .ref (b 0)), (0, .ref scr)]) (hP : va_P (dC, dI) vwC (qW k b o a d g r) H) (hD : va_D (xA s) (qW k b o a d g r)) (hS : va_S (xA s) s.heap H locs) (hSim : Sim (fun _ => n) d r) (kk : ∀ (H : Heap) (locs : List Loc) (ls : Array Slot) (d : xDS) (g : Nat → Int64) (r : xRS), lv_has ls 8 [(4, .int (nI i)), (3, .ref o), (2, .ref (a 0)), (1, .ref (b 0)), (0, .ref scr)] → va_P (dC, dI) vwC (qW k b o a d g r) H → va_D (xA s) (qW k b o a d g r) → va_S (xA s) s.heap H locs → Sim (fun _ => n + 1) d r → W p l e room_1 s m #[Value.ref scr] below meth c H locs (cells + 5) (slots + 30) Q (F0 m 841 ls [])) : W p l e room_1 s m #[Value.ref scr] below meth c H locs cells slots Q (F0 m 104 ls []) := by
  have hDk := hD
  refine lv_aload_n hx hb d_W_104 rfl (lv_at hl 3 rfl) ?_
  refine lv_aload_n hx hb d_W_105 rfl (lv_at hl 4 rfl) ?_
  refine lv_iload hx hb d_W_106 (lv_at hl 0 rfl) ?_
  refine lv_iconst (v := nI 1) hx hb d_W_108 (by decide) ?_
  refine lv_iadd hx hb d_W_109 ?_
  refine W.eq (g2 := F0 m 110 ls [.int (nI (i + 1)), .ref scr, .ref (b 0)]) (by rw [nI_add]) ?_
  refine va_sld hx hb hX hbl (Nat.not_le.mpr hbl) hS (pk_in (i + 1) L (by omega)) d_W_110 ?_
  refine W.eq (g2 := F0 m 111 ls [.int (xs (i + 1)), .ref (b 0)]) (by rw [cl_nI (by omega)]) ?_
  have hFc := xq_free (w := lW k b o d g) (va_D_l hD) hS (fun _ h => h)
  refine va_calli (xc_runS (n := 2) (As := [.ref (b 0), .int (xs (i + 1))]) (rest := []) ⟨hx, hb, hml, hown, hB⟩ (m_L_begin l dC dI k b o _ d g (xs (i + 1)) htr) (BIG_good bw_69) rfl rfl rfl ⟨Nat.le_of_ble_eq_true rfl, Nat.le_of_ble_eq_true rfl⟩ (hB _ bw_67) (hB _ bw_68) (hB _ bw_15) ⟨by decide, by decide⟩ (by decide +kernel) (lPc_pre _ (va_P_l hP) hK (va_D_l hD) hTh hCt (keep_new hS)) rfl rfl hl.1 rfl (lv_room (Nat.le_of_ble_eq_true rfl)) d_W_111 ⟨by show cells + 5 ≤ 601024; omega, by show slots + 30 ≤ 7293034; omega⟩) hS (fun q _ h => hFc q h) hFc (fun r7 u t H1 locs ht hvm hw hB1 hz1 hk1 hS => ?_)
  obtain ⟨d2, g2⟩ := u
  obtain ⟨hr7, hd2⟩ := hw
  have hd2 : d2 = (yBegin d (xs (i + 1))).2 := hd2
  have hB2 : va_P (dC, dI) vwC (lW k b o d2 g2) H1 := by rw [← ht]; exact hB1
  rw [hd2] at hB2
  have hP : va_P (dC, dI) vwC (qW k b o a ((yBegin d (xs (i + 1))).2) g2 r) H1 := xq_l hP hD hB2 hk1
  have hD : va_D (xA s) (qW k b o a ((yBegin d (xs (i + 1))).2) g2 r) := qW_D hDk
  clear hFc hB1 hB2 hk1 hz1 ht hvm
  generalize H1 = H at hP hS ⊢
  subst hr7
  refine W.eq (g2 := F0 m 114 ls [.int (cdOf [qA, qS] (yBegin d (xs (i + 1))).1)]) (rfl) ?_
  refine lv_istore hx hb d_W_114 hl (by decide) rfl (fun ls hl => ?_)
  have hl : lv_has ls 8 [(5, .int (cdOf [qA, qS] (yBegin d (xs (i + 1))).1)), (4, .int (nI i)), (3, .ref o), (2, .ref (a 0)), (1, .ref (b 0)), (0, .ref scr)] := hl
  refine lv_aload_n hx hb d_W_116 rfl (lv_at hl 3 rfl) ?_
  refine lv_aload_n hx hb d_W_117 rfl (lv_at hl 5 rfl) ?_
  refine lv_iload hx hb d_W_118 (lv_at hl 1 rfl) ?_
  refine lv_iconst (v := nI 1) hx hb d_W_120 (by decide) ?_
  refine lv_iadd hx hb d_W_121 ?_
  refine W.eq (g2 := F0 m 122 ls [.int (nI (i + 1)), .ref scr, .ref (a 0)]) (by rw [nI_add]) ?_
  refine va_sld hx hb hX hbl (Nat.not_le.mpr hbl) hS (pk_in (i + 1) L (by omega)) d_W_122 ?_
  refine W.eq (g2 := F0 m 123 ls [.int (xs (i + 1)), .ref (a 0)]) (by rw [cl_nI (by omega)]) ?_
  have hFc := xq_free (w := mW k a r) (va_D_r hD) hS (fun _ h => h)
  refine va_callv (va_runV (As := [.int (xs (i + 1))]) (rest := []) ⟨hx, hb, hml, hown, hB⟩ (m_M_begin l dC dI k a _ r (xs (i + 1))) (cwV 1 hB (BIG_V bw_383 bw_384 bw_385 bw_18 bw_386) rfl rfl rfl ⟨rfl, by decide, by decide, by decide +kernel⟩ ⟨Nat.le_of_ble_eq_true rfl, Nat.le_of_ble_eq_true rfl⟩) (mPc_pre _ (va_P_r hP) hK (va_D_r hD)) rfl rfl hl.1 rfl (lv_room (Nat.le_of_ble_eq_true rfl)) d_W_123 ⟨by show cells + 5 + 0 ≤ 601024; omega, by show slots + 30 + 0 ≤ 7293034; omega⟩) hS (fun q _ h => hFc q h) hFc (fun u t H1 locs ht hvm hw hB1 hz1 hk1 hS => ?_)
  have hu : u = (zBegin r (xs (i + 1))) := hw
  have hB2 : va_P (dC, dI) vwC (mW k a u) H1 := by rw [← ht]; exact hB1
  rw [hu] at hB2
  have hP : va_P (dC, dI) vwC (qW k b o a ((yBegin d (xs (i + 1))).2) g2 (zBegin r (xs (i + 1)))) H1 := xq_r hP hD hB2 hk1
  have hD : va_D (xA s) (qW k b o a ((yBegin d (xs (i + 1))).2) g2 (zBegin r (xs (i + 1)))) := qW_D hDk
  clear hFc hB1 hB2 hk1 hz1 ht hvm
  generalize H1 = H at hP hS ⊢
  refine lv_aload_n hx hb d_W_126 rfl (lv_at hl 3 rfl) ?_
  refine vp_callSi (va_Run.run (va_runV (As := []) (rest := []) ⟨hx, hb, hml, hown, hB⟩ (m_M_thrown l dC dI k a (zBegin r (xs (i + 1)))) (cwV 0 hB (BIG_V bw_379 bw_380 bw_381 bw_18 bw_382) rfl rfl rfl ⟨rfl, by decide, by decide, by decide +kernel⟩ ⟨Nat.le_of_ble_eq_true rfl, Nat.le_of_ble_eq_true rfl⟩) (mRc_pre _ (va_P_r hP) hK) rfl rfl hl.1 rfl (lv_room (Nat.le_of_ble_eq_true rfl)) d_W_127 ⟨by show cells + 5 + 0 + 0 ≤ 601024; omega, by show slots + 30 + 0 + 0 ≤ 7293034; omega⟩)) (fun r7 hr7 => ?_)
  subst hr7
  refine W.eq (g2 := F0 m 130 ls [.int (zE (zBegin r (xs (i + 1))))]) (rfl) ?_
  have hsim := sim_begin hSim (xs (i + 1))
  refine lv_iload hx hb d_W_130 (lv_at hl 0 rfl) ?_
  refine lv_icmp_eq hx hb d_W_132 rfl (fun _ => ?_) (fun h9 => absurd (hsim.1) h9)
  refine lv_goto hx hb d_W_137 rfl ?_
  exact kk H _ ls _ _ _ ⟨hl.1, hl.2.1, fun q hq => hl.2.2 q (by simp only [List.mem_cons, List.not_mem_nil, or_false] at hq ⊢; rcases hq with h | h | h | h | h <;> simp [h])⟩ hP hD hS (Sim.wide hsim.2 (fun _ _ => Nat.le_succ _))
set_option maxHeartbeats 4000000 in
set_option maxRecDepth 100000 in
theorem arm_1 {p : Program} {e : Env} {s : State} {m : MethodId} {below : List Frame} {meth : Method} {c : Code} {Q : State → Prop} (l : Launch) {scr L : Nat} {xs : Nat → Int32} (hx : p.tables.exec = Jvm.exec) (hb : c.code = code) (hml : c.maxLocals = 8) (hown : s.vm.findClass R_L = some m.cls) (hB : ∀ w ∈ BIG, w.before #[Value.ref scr] s = true) (hX : va_X scr L xs s s.heap) (hbl : scr < s.heap.size) {dC : Nat → ClassId} {dI : Nat → Nat → Nat} {k : Nat → ClassId} (hK : va_K (dC, dI) vwC (kT k) s) (hTh : xTh s) (hCt : xCt s) (htr : l.stackTraces = false) {b : Nat → Nat} {o : Nat} {a : Nat → Nat} {d : xDS} {g : Nat → Int64} {r : xRS} {n i : Nat} {H : Heap} {locs : List Loc} {ls : Array Slot} {cells slots : Nat} (hL : L ≤ 2560) (hi : i + 5 ≤ L) (hn : n < 2560) (hce : cells + 5 ≤ 601024) (hsl : slots + 30 ≤ 7293034) (hl : lv_has ls 8 [(4, .int (nI i)), (3, .ref o), (2, .ref (a 0)), (1, .ref (b 0)), (0, .ref scr)]) (hP : va_P (dC, dI) vwC (qW k b o a d g r) H) (hD : va_D (xA s) (qW k b o a d g r)) (hS : va_S (xA s) s.heap H locs) (hSim : Sim (fun _ => n) d r) (kk : ∀ (H : Heap) (locs : List Loc) (ls : Array Slot) (d : xDS) (g : Nat → Int64) (r : xRS), lv_has ls 8 [(4, .int (nI i)), (3, .ref o), (2, .ref (a 0)), (1, .ref (b 0)), (0, .ref scr)] → va_P (dC, dI) vwC (qW k b o a d g r) H → va_D (xA s) (qW k b o a d g r) → va_S (xA s) s.heap H locs → Sim (fun _ => n + 1) d r → W p l e room_1 s m #[Value.ref scr] below meth c H locs (cells + 5) (slots + 30) Q (F0 m 841 ls [])) : W p l e room_1 s m #[Value.ref scr] below meth c H locs cells slots Q (F0 m 140 ls []) := by
  have hDk := hD
  refine lv_aload_n hx hb d_W_140 rfl (lv_at hl 3 rfl) ?_
  refine lv_aload_n hx hb d_W_141 rfl (lv_at hl 4 rfl) ?_
  refine lv_iload hx hb d_W_142 (lv_at hl 0 rfl) ?_
  refine lv_iconst (v := nI 1) hx hb d_W_144 (by decide) ?_
  refine lv_iadd hx hb d_W_145 ?_
  refine W.eq (g2 := F0 m 146 ls [.int (nI (i + 1)), .ref scr, .ref (b 0)]) (by rw [nI_add]) ?_
  refine va_sld hx hb hX hbl (Nat.not_le.mpr hbl) hS (pk_in (i + 1) L (by omega)) d_W_146 ?_
  refine W.eq (g2 := F0 m 147 ls [.int (xs (i + 1)), .ref (b 0)]) (by rw [cl_nI (by omega)]) ?_
  refine lv_aload_n hx hb d_W_147 rfl (lv_at hl 4 rfl) ?_
  refine lv_iload hx hb d_W_148 (lv_at hl 0 rfl) ?_
  refine lv_iconst (v := nI 2) hx hb d_W_150 (by decide) ?_
  refine lv_iadd hx hb d_W_151 ?_
  refine W.eq (g2 := F0 m 152 ls [.int (nI (i + 2)), .ref scr, .int (xs (i + 1)), .ref (b 0)]) (by rw [nI_add]) ?_
  refine va_sld hx hb hX hbl (Nat.not_le.mpr hbl) hS (pk_in (i + 2) L (by omega)) d_W_152 ?_
  refine W.eq (g2 := F0 m 153 ls [.int (xs (i + 2)), .int (xs (i + 1)), .ref (b 0)]) (by rw [cl_nI (by omega)]) ?_
  refine lv_aload_n hx hb d_W_153 rfl (lv_at hl 1 rfl) ?_
  have hFc := xq_free (w := lW k b o d g) (va_D_l hD) hS (fun _ h => h)
  refine va_calli (xc_runS (n := 4) (As := [.ref (b 0), .int (xs (i + 1)), .int (xs (i + 2)), .ref o]) (rest := []) ⟨hx, hb, hml, hown, hB⟩ (m_L_read l dC dI k b o _ d g (xs (i + 1)) (xs (i + 2)) htr (sim_dOk hSim)) (BIG_good bw_151) rfl rfl rfl ⟨Nat.le_of_ble_eq_true rfl, Nat.le_of_ble_eq_true rfl⟩ (hB _ bw_149) (hB _ bw_150) (hB _ bw_15) ⟨by decide, by decide⟩ (by decide +kernel) (lPc_pre _ (va_P_l hP) hK (va_D_l hD) hTh hCt (keep_new hS)) rfl rfl hl.1 rfl (lv_room (Nat.le_of_ble_eq_true rfl)) d_W_154 ⟨by show cells + 5 ≤ 601024; omega, by show slots + 30 ≤ 7293034; omega⟩) hS (fun q _ h => hFc q h) hFc (fun r7 u t H1 locs ht hvm hw hB1 hz1 hk1 hS => ?_)
  obtain ⟨d2, g2⟩ := u
  obtain ⟨hr7, hd2, hval⟩ := hw
  dsimp only at hval
  have hd2 : d2 = (yRead d (xs (i + 1)) (xs (i + 2))).2 := hd2
  have hB2 : va_P (dC, dI) vwC (lW k b o d2 g2) H1 := by rw [← ht]; exact hB1
  rw [hd2] at hB2
  have hP : va_P (dC, dI) vwC (qW k b o a ((yRead d (xs (i + 1)) (xs (i + 2))).2) g2 r) H1 := xq_l hP hD hB2 hk1
  have hD : va_D (xA s) (qW k b o a ((yRead d (xs (i + 1)) (xs (i + 2))).2) g2 r) := qW_D hDk
  clear hFc hB1 hB2 hk1 hz1 ht hvm
  generalize H1 = H at hP hS ⊢
  subst hr7
  refine W.eq (g2 := F0 m 157 ls [.int (cdOf [qA, qB, qS, qU] (yRead d (xs (i + 1)) (xs (i + 2))).1.1)]) (rfl) ?_
  refine lv_istore hx hb d_W_157 hl (by decide) rfl (fun ls hl => ?_)
  have hl : lv_has ls 8 [(5, .int (cdOf [qA, qB, qS, qU] (yRead d (xs (i + 1)) (xs (i + 2))).1.1)), (4, .int (nI i)), (3, .ref o), (2, .ref (a 0)), (1, .ref (b 0)), (0, .ref scr)] := hl
  refine lv_aload_n hx hb d_W_159 rfl (lv_at hl 3 rfl) ?_
  refine lv_aload_n hx hb d_W_160 rfl (lv_at hl 5 rfl) ?_
  refine lv_iload hx hb d_W_161 (lv_at hl 1 rfl) ?_
  refine lv_iconst (v := nI 1) hx hb d_W_163 (by decide) ?_
  refine lv_iadd hx hb d_W_164 ?_
  refine W.eq (g2 := F0 m 165 ls [.int (nI (i + 1)), .ref scr, .ref (a 0)]) (by rw [nI_add]) ?_
  refine va_sld hx hb hX hbl (Nat.not_le.mpr hbl) hS (pk_in (i + 1) L (by omega)) d_W_165 ?_
  refine W.eq (g2 := F0 m 166 ls [.int (xs (i + 1)), .ref (a 0)]) (by rw [cl_nI (by omega)]) ?_
  refine lv_aload_n hx hb d_W_166 rfl (lv_at hl 5 rfl) ?_
  refine lv_iload hx hb d_W_167 (lv_at hl 1 rfl) ?_
  refine lv_iconst (v := nI 2) hx hb d_W_169 (by decide) ?_
  refine lv_iadd hx hb d_W_170 ?_
  refine W.eq (g2 := F0 m 171 ls [.int (nI (i + 2)), .ref scr, .int (xs (i + 1)), .ref (a 0)]) (by rw [nI_add]) ?_
  refine va_sld hx hb hX hbl (Nat.not_le.mpr hbl) hS (pk_in (i + 2) L (by omega)) d_W_171 ?_
  refine W.eq (g2 := F0 m 172 ls [.int (xs (i + 2)), .int (xs (i + 1)), .ref (a 0)]) (by rw [cl_nI (by omega)]) ?_
  have hFc := xq_free (w := mW k a r) (va_D_r hD) hS (fun _ h => h)
  refine va_calll (va_runV (As := [.int (xs (i + 1)), .int (xs (i + 2))]) (rest := []) ⟨hx, hb, hml, hown, hB⟩ (m_M_read l dC dI k a _ r (xs (i + 1)) (xs (i + 2)) (sim_mOk hSim)) (cwV 2 hB (BIG_V bw_400 bw_401 bw_402 bw_18 bw_403) rfl rfl rfl ⟨rfl, by decide, by decide, by decide +kernel⟩ ⟨Nat.le_of_ble_eq_true rfl, Nat.le_of_ble_eq_true rfl⟩) (mPc_pre _ (va_P_r hP) hK (va_D_r hD)) rfl rfl hl.1 rfl (lv_room (Nat.le_of_ble_eq_true rfl)) d_W_172 ⟨by show cells + 5 + 0 ≤ 601024; omega, by show slots + 30 + 0 ≤ 7293034; omega⟩) hS (fun q _ h => hFc q h) hFc (fun r6 u t H1 locs ht hvm hw hB1 hz1 hk1 hS => ?_)
  have h6 : r6 = (zRead r (xs (i + 1)) (xs (i + 2))).1 := congrArg Prod.fst hw
  have hu : u = (zRead r (xs (i + 1)) (xs (i + 2))).2 := congrArg Prod.snd hw
  have hB2 : va_P (dC, dI) vwC (mW k a u) H1 := by rw [← ht]; exact hB1
  rw [hu] at hB2
  have hP : va_P (dC, dI) vwC (qW k b o a ((yRead d (xs (i + 1)) (xs (i + 2))).2) g2 ((zRead r (xs (i + 1)) (xs (i + 2))).2)) H1 := xq_r hP hD hB2 hk1
  have hD : va_D (xA s) (qW k b o a ((yRead d (xs (i + 1)) (xs (i + 2))).2) g2 ((zRead r (xs (i + 1)) (xs (i + 2))).2)) := qW_D hDk
  clear hFc hB1 hB2 hk1 hz1 ht hvm
  generalize H1 = H at hP hS ⊢
  subst h6
  refine W.eq (g2 := F0 m 175 ls [.long ((zRead r (xs (i + 1)) (xs (i + 2))).1)]) (rfl) ?_
  refine lv_lstore hx hb d_W_175 hl (by decide) rfl (fun ls hl => ?_)
  have hl : lv_has ls 8 [(6, .long ((zRead r (xs (i + 1)) (xs (i + 2))).1)), (5, .int (cdOf [qA, qB, qS, qU] (yRead d (xs (i + 1)) (xs (i + 2))).1.1)), (4, .int (nI i)), (3, .ref o), (2, .ref (a 0)), (1, .ref (b 0)), (0, .ref scr)] := hl
  refine lv_aload_n hx hb d_W_177 rfl (lv_at hl 4 rfl) ?_
  refine vp_callSi (va_Run.run (va_runV (As := []) (rest := []) ⟨hx, hb, hml, hown, hB⟩ (m_M_thrown l dC dI k a ((zRead r (xs (i + 1)) (xs (i + 2))).2)) (cwV 0 hB (BIG_V bw_379 bw_380 bw_381 bw_18 bw_382) rfl rfl rfl ⟨rfl, by decide, by decide, by decide +kernel⟩ ⟨Nat.le_of_ble_eq_true rfl, Nat.le_of_ble_eq_true rfl⟩) (mRc_pre _ (va_P_r hP) hK) rfl rfl hl.1 rfl (lv_room (Nat.le_of_ble_eq_true rfl)) d_W_178 ⟨by show cells + 5 + 0 + 0 ≤ 601024; omega, by show slots + 30 + 0 + 0 ≤ 7293034; omega⟩)) (fun r7 hr7 => ?_)
  subst hr7
  refine W.eq (g2 := F0 m 181 ls [.int (zE ((zRead r (xs (i + 1)) (xs (i + 2))).2))]) (rfl) ?_
  have hsim := sim_read hSim (fun _ _ => by omega) (xs (i + 1)) (xs (i + 2))
  refine lv_iload hx hb d_W_181 (lv_at hl 1 rfl) ?_
  refine lv_icmp_eq hx hb d_W_183 rfl (fun _ => ?_) (fun h9 => absurd (hsim.1) h9)
  refine lv_iload hx hb d_W_188 (lv_at hl 1 rfl) ?_
  cases he : (yRead d (xs (i + 1)) (xs (i + 2))).1.1 with
  | some X =>
    refine lv_if_ne hx hb d_W_190 rfl (fun _ => ?_) (fun h9 => absurd h9 (cd_ne (by decide)))
    refine lv_goto hx hb d_W_204 rfl ?_
    exact kk H _ ls _ _ _ ⟨hl.1, hl.2.1, fun q hq => hl.2.2 q (by simp only [List.mem_cons, List.not_mem_nil, or_false] at hq ⊢; rcases hq with h | h | h | h | h <;> simp [h])⟩ hP hD hS (Sim.wide hsim.2.1 (fun _ _ => Nat.le_succ _))
  | none =>
    refine lv_if_ne hx hb d_W_190 rfl (fun h9 => absurd h9 (fun q => q rfl)) (fun _ => ?_)
    refine lv_aload_n hx hb d_W_193 rfl (lv_at hl 3 rfl) ?_
    refine lv_iconst (v := nI 0) hx hb d_W_194 (by decide) ?_
    refine va_lald hx hb hK hP 0 1 rfl rfl (pk_in 0 1 (by omega)) d_W_195 ?_
    refine W.eq (g2 := F0 m 196 ls [.long (g2 0)]) (by rw [cl_nI (by omega)]) ?_
    refine lv_lload hx hb d_W_196 (lv_at hl 0 rfl) ?_
    refine W.lcmp hx hb d_W_198 ?_
    refine lv_if_eq hx hb d_W_199 rfl (fun _ => ?_) (fun h9 => absurd (by rw [hval he, hsim.2.2 he]; exact lg_cmp_self _) h9)
    refine lv_goto hx hb d_W_204 rfl ?_
    exact kk H _ ls _ _ _ ⟨hl.1, hl.2.1, fun q hq => hl.2.2 q (by simp only [List.mem_cons, List.not_mem_nil, or_false] at hq ⊢; rcases hq with h | h | h | h | h <;> simp [h])⟩ hP hD hS (Sim.wide hsim.2.1 (fun _ _ => Nat.le_succ _))
set_option maxHeartbeats 4000000 in
set_option maxRecDepth 100000 in
theorem arm_2 {p : Program} {e : Env} {s : State} {m : MethodId} {below : List Frame} {meth : Method} {c : Code} {Q : State → Prop} (l : Launch) {scr L : Nat} {xs : Nat → Int32} (hx : p.tables.exec = Jvm.exec) (hb : c.code = code) (hml : c.maxLocals = 8) (hown : s.vm.findClass R_L = some m.cls) (hB : ∀ w ∈ BIG, w.before #[Value.ref scr] s = true) (hX : va_X scr L xs s s.heap) (hbl : scr < s.heap.size) {dC : Nat → ClassId} {dI : Nat → Nat → Nat} {k : Nat → ClassId} (hK : va_K (dC, dI) vwC (kT k) s) (hTh : xTh s) (hCt : xCt s) (htr : l.stackTraces = false) {b : Nat → Nat} {o : Nat} {a : Nat → Nat} {d : xDS} {g : Nat → Int64} {r : xRS} {n i : Nat} {H : Heap} {locs : List Loc} {ls : Array Slot} {cells slots : Nat} (hL : L ≤ 2560) (hi : i + 5 ≤ L) (hn : n < 2560) (hce : cells + 5 ≤ 601024) (hsl : slots + 30 ≤ 7293034) (hl : lv_has ls 8 [(4, .int (nI i)), (3, .ref o), (2, .ref (a 0)), (1, .ref (b 0)), (0, .ref scr)]) (hP : va_P (dC, dI) vwC (qW k b o a d g r) H) (hD : va_D (xA s) (qW k b o a d g r)) (hS : va_S (xA s) s.heap H locs) (hSim : Sim (fun _ => n) d r) (kk : ∀ (H : Heap) (locs : List Loc) (ls : Array Slot) (d : xDS) (g : Nat → Int64) (r : xRS), lv_has ls 8 [(4, .int (nI i)), (3, .ref o), (2, .ref (a 0)), (1, .ref (b 0)), (0, .ref scr)] → va_P (dC, dI) vwC (qW k b o a d g r) H → va_D (xA s) (qW k b o a d g r) → va_S (xA s) s.heap H locs → Sim (fun _ => n + 1) d r → W p l e room_1 s m #[Value.ref scr] below meth c H locs (cells + 5) (slots + 30) Q (F0 m 841 ls [])) : W p l e room_1 s m #[Value.ref scr] below meth c H locs cells slots Q (F0 m 207 ls []) := by
  have hDk := hD
  refine lv_aload_n hx hb d_W_207 rfl (lv_at hl 3 rfl) ?_
  refine lv_aload_n hx hb d_W_208 rfl (lv_at hl 4 rfl) ?_
  refine lv_iload hx hb d_W_209 (lv_at hl 0 rfl) ?_
  refine lv_iconst (v := nI 1) hx hb d_W_211 (by decide) ?_
  refine lv_iadd hx hb d_W_212 ?_
  refine W.eq (g2 := F0 m 213 ls [.int (nI (i + 1)), .ref scr, .ref (b 0)]) (by rw [nI_add]) ?_
  refine va_sld hx hb hX hbl (Nat.not_le.mpr hbl) hS (pk_in (i + 1) L (by omega)) d_W_213 ?_
  refine W.eq (g2 := F0 m 214 ls [.int (xs (i + 1)), .ref (b 0)]) (by rw [cl_nI (by omega)]) ?_
  refine lv_aload_n hx hb d_W_214 rfl (lv_at hl 4 rfl) ?_
  refine lv_iload hx hb d_W_215 (lv_at hl 0 rfl) ?_
  refine lv_iconst (v := nI 2) hx hb d_W_217 (by decide) ?_
  refine lv_iadd hx hb d_W_218 ?_
  refine W.eq (g2 := F0 m 219 ls [.int (nI (i + 2)), .ref scr, .int (xs (i + 1)), .ref (b 0)]) (by rw [nI_add]) ?_
  refine va_sld hx hb hX hbl (Nat.not_le.mpr hbl) hS (pk_in (i + 2) L (by omega)) d_W_219 ?_
  refine W.eq (g2 := F0 m 220 ls [.int (xs (i + 2)), .int (xs (i + 1)), .ref (b 0)]) (by rw [cl_nI (by omega)]) ?_
  refine lv_aload_n hx hb d_W_220 rfl (lv_at hl 4 rfl) ?_
  refine lv_iload hx hb d_W_221 (lv_at hl 0 rfl) ?_
  refine lv_iconst (v := nI 3) hx hb d_W_223 (by decide) ?_
  refine lv_iadd hx hb d_W_224 ?_
  refine W.eq (g2 := F0 m 225 ls [.int (nI (i + 3)), .ref scr, .int (xs (i + 2)), .int (xs (i + 1)), .ref (b 0)]) (by rw [nI_add]) ?_
  refine va_sld hx hb hX hbl (Nat.not_le.mpr hbl) hS (pk_in (i + 3) L (by omega)) d_W_225 ?_
  refine W.eq (g2 := F0 m 226 ls [.int (xs (i + 3)), .int (xs (i + 2)), .int (xs (i + 1)), .ref (b 0)]) (by rw [cl_nI (by omega)]) ?_
  refine lv_i2l hx hb d_W_226 rfl ?_
  refine lv_bipush (v := nI 32) hx hb d_W_227 (by decide) ?_
  refine lv_lshl (v := ((xs (i + 3)).toInt64) <<< (Int32.toInt64 (nI 32) &&& 63)) hx hb d_W_229 rfl ?_
  refine lv_aload_n hx hb d_W_230 rfl (lv_at hl 4 rfl) ?_
  refine lv_iload hx hb d_W_231 (lv_at hl 0 rfl) ?_
  refine lv_iconst (v := nI 4) hx hb d_W_233 (by decide) ?_
  refine lv_iadd hx hb d_W_234 ?_
  refine W.eq (g2 := F0 m 235 ls [.int (nI (i + 4)), .ref scr, .long (((xs (i + 3)).toInt64) <<< (Int32.toInt64 (nI 32) &&& 63)), .int (xs (i + 2)), .int (xs (i + 1)), .ref (b 0)]) (by rw [nI_add]) ?_
  refine va_sld hx hb hX hbl (Nat.not_le.mpr hbl) hS (pk_in (i + 4) L (by omega)) d_W_235 ?_
  refine W.eq (g2 := F0 m 236 ls [.int (xs (i + 4)), .long (((xs (i + 3)).toInt64) <<< (Int32.toInt64 (nI 32) &&& 63)), .int (xs (i + 2)), .int (xs (i + 1)), .ref (b 0)]) (by rw [cl_nI (by omega)]) ?_
  refine lv_i2l hx hb d_W_236 rfl ?_
  refine lv_ldc2 hx hb hown (hB _ bw_463) d_W_237 ?_
  refine lv_land hx hb d_W_240 ?_
  refine lv_lor hx hb d_W_241 ?_
  have hFc := xq_free (w := lW k b o d g) (va_D_l hD) hS (fun _ h => h)
  refine va_calli (xc_runS (n := 4) (As := [.ref (b 0), .int (xs (i + 1)), .int (xs (i + 2)), .long ((((xs (i + 3)).toInt64) <<< (Int32.toInt64 (nI 32) &&& 63)) ||| (((xs (i + 4)).toInt64) &&& 4294967295))]) (rest := []) ⟨hx, hb, hml, hown, hB⟩ (m_L_write l dC dI k b o _ d g (xs (i + 1)) (xs (i + 2)) ((((xs (i + 3)).toInt64) <<< (Int32.toInt64 (nI 32) &&& 63)) ||| (((xs (i + 4)).toInt64) &&& 4294967295)) htr (sim_dOk hSim)) (BIG_good bw_223) rfl rfl rfl ⟨Nat.le_of_ble_eq_true rfl, Nat.le_of_ble_eq_true rfl⟩ (hB _ bw_221) (hB _ bw_222) (hB _ bw_15) ⟨by decide, by decide⟩ (by decide +kernel) (lPc_pre _ (va_P_l hP) hK (va_D_l hD) hTh hCt (keep_new hS)) rfl rfl hl.1 rfl (lv_room (Nat.le_of_ble_eq_true rfl)) d_W_242 ⟨by show cells + 5 ≤ 601024; omega, by show slots + 30 ≤ 7293034; omega⟩) hS (fun q _ h => hFc q h) hFc (fun r7 u t H1 locs ht hvm hw hB1 hz1 hk1 hS => ?_)
  obtain ⟨d2, g2⟩ := u
  obtain ⟨hr7, hd2⟩ := hw
  have hd2 : d2 = (yWrite d (xs (i + 1)) (xs (i + 2)) ((((xs (i + 3)).toInt64) <<< (Int32.toInt64 (nI 32) &&& 63)) ||| (((xs (i + 4)).toInt64) &&& 4294967295))).2 := hd2
  have hB2 : va_P (dC, dI) vwC (lW k b o d2 g2) H1 := by rw [← ht]; exact hB1
  rw [hd2] at hB2
  have hP : va_P (dC, dI) vwC (qW k b o a ((yWrite d (xs (i + 1)) (xs (i + 2)) ((((xs (i + 3)).toInt64) <<< (Int32.toInt64 (nI 32) &&& 63)) ||| (((xs (i + 4)).toInt64) &&& 4294967295))).2) g2 r) H1 := xq_l hP hD hB2 hk1
  have hD : va_D (xA s) (qW k b o a ((yWrite d (xs (i + 1)) (xs (i + 2)) ((((xs (i + 3)).toInt64) <<< (Int32.toInt64 (nI 32) &&& 63)) ||| (((xs (i + 4)).toInt64) &&& 4294967295))).2) g2 r) := qW_D hDk
  clear hFc hB1 hB2 hk1 hz1 ht hvm
  generalize H1 = H at hP hS ⊢
  subst hr7
  refine W.eq (g2 := F0 m 245 ls [.int (cdOf [qA, qB, qS] (yWrite d (xs (i + 1)) (xs (i + 2)) ((((xs (i + 3)).toInt64) <<< (Int32.toInt64 (nI 32) &&& 63)) ||| (((xs (i + 4)).toInt64) &&& 4294967295))).1)]) (rfl) ?_
  refine lv_istore hx hb d_W_245 hl (by decide) rfl (fun ls hl => ?_)
  have hl : lv_has ls 8 [(5, .int (cdOf [qA, qB, qS] (yWrite d (xs (i + 1)) (xs (i + 2)) ((((xs (i + 3)).toInt64) <<< (Int32.toInt64 (nI 32) &&& 63)) ||| (((xs (i + 4)).toInt64) &&& 4294967295))).1)), (4, .int (nI i)), (3, .ref o), (2, .ref (a 0)), (1, .ref (b 0)), (0, .ref scr)] := hl
  refine lv_aload_n hx hb d_W_247 rfl (lv_at hl 3 rfl) ?_
  refine lv_aload_n hx hb d_W_248 rfl (lv_at hl 5 rfl) ?_
  refine lv_iload hx hb d_W_249 (lv_at hl 1 rfl) ?_
  refine lv_iconst (v := nI 1) hx hb d_W_251 (by decide) ?_
  refine lv_iadd hx hb d_W_252 ?_
  refine W.eq (g2 := F0 m 253 ls [.int (nI (i + 1)), .ref scr, .ref (a 0)]) (by rw [nI_add]) ?_
  refine va_sld hx hb hX hbl (Nat.not_le.mpr hbl) hS (pk_in (i + 1) L (by omega)) d_W_253 ?_
  refine W.eq (g2 := F0 m 254 ls [.int (xs (i + 1)), .ref (a 0)]) (by rw [cl_nI (by omega)]) ?_
  refine lv_aload_n hx hb d_W_254 rfl (lv_at hl 5 rfl) ?_
  refine lv_iload hx hb d_W_255 (lv_at hl 1 rfl) ?_
  refine lv_iconst (v := nI 2) hx hb d_W_257 (by decide) ?_
  refine lv_iadd hx hb d_W_258 ?_
  refine W.eq (g2 := F0 m 259 ls [.int (nI (i + 2)), .ref scr, .int (xs (i + 1)), .ref (a 0)]) (by rw [nI_add]) ?_
  refine va_sld hx hb hX hbl (Nat.not_le.mpr hbl) hS (pk_in (i + 2) L (by omega)) d_W_259 ?_
  refine W.eq (g2 := F0 m 260 ls [.int (xs (i + 2)), .int (xs (i + 1)), .ref (a 0)]) (by rw [cl_nI (by omega)]) ?_
  refine lv_aload_n hx hb d_W_260 rfl (lv_at hl 5 rfl) ?_
  refine lv_iload hx hb d_W_261 (lv_at hl 1 rfl) ?_
  refine lv_iconst (v := nI 3) hx hb d_W_263 (by decide) ?_
  refine lv_iadd hx hb d_W_264 ?_
  refine W.eq (g2 := F0 m 265 ls [.int (nI (i + 3)), .ref scr, .int (xs (i + 2)), .int (xs (i + 1)), .ref (a 0)]) (by rw [nI_add]) ?_
  refine va_sld hx hb hX hbl (Nat.not_le.mpr hbl) hS (pk_in (i + 3) L (by omega)) d_W_265 ?_
  refine W.eq (g2 := F0 m 266 ls [.int (xs (i + 3)), .int (xs (i + 2)), .int (xs (i + 1)), .ref (a 0)]) (by rw [cl_nI (by omega)]) ?_
  refine lv_i2l hx hb d_W_266 rfl ?_
  refine lv_bipush (v := nI 32) hx hb d_W_267 (by decide) ?_
  refine lv_lshl (v := ((xs (i + 3)).toInt64) <<< (Int32.toInt64 (nI 32) &&& 63)) hx hb d_W_269 rfl ?_
  refine lv_aload_n hx hb d_W_270 rfl (lv_at hl 5 rfl) ?_
  refine lv_iload hx hb d_W_271 (lv_at hl 1 rfl) ?_
  refine lv_iconst (v := nI 4) hx hb d_W_273 (by decide) ?_
  refine lv_iadd hx hb d_W_274 ?_
  refine W.eq (g2 := F0 m 275 ls [.int (nI (i + 4)), .ref scr, .long (((xs (i + 3)).toInt64) <<< (Int32.toInt64 (nI 32) &&& 63)), .int (xs (i + 2)), .int (xs (i + 1)), .ref (a 0)]) (by rw [nI_add]) ?_
  refine va_sld hx hb hX hbl (Nat.not_le.mpr hbl) hS (pk_in (i + 4) L (by omega)) d_W_275 ?_
  refine W.eq (g2 := F0 m 276 ls [.int (xs (i + 4)), .long (((xs (i + 3)).toInt64) <<< (Int32.toInt64 (nI 32) &&& 63)), .int (xs (i + 2)), .int (xs (i + 1)), .ref (a 0)]) (by rw [cl_nI (by omega)]) ?_
  refine lv_i2l hx hb d_W_276 rfl ?_
  refine lv_ldc2 hx hb hown (hB _ bw_463) d_W_277 ?_
  refine lv_land hx hb d_W_280 ?_
  refine lv_lor hx hb d_W_281 ?_
  have hFc := xq_free (w := mW k a r) (va_D_r hD) hS (fun _ h => h)
  refine va_callv (va_runV (As := [.int (xs (i + 1)), .int (xs (i + 2)), .long ((((xs (i + 3)).toInt64) <<< (Int32.toInt64 (nI 32) &&& 63)) ||| (((xs (i + 4)).toInt64) &&& 4294967295))]) (rest := []) ⟨hx, hb, hml, hown, hB⟩ (m_M_write l dC dI k a _ r (xs (i + 1)) (xs (i + 2)) ((((xs (i + 3)).toInt64) <<< (Int32.toInt64 (nI 32) &&& 63)) ||| (((xs (i + 4)).toInt64) &&& 4294967295)) (sim_mOk hSim)) (cwV 3 hB (BIG_V bw_411 bw_412 bw_413 bw_18 bw_414) rfl rfl rfl ⟨rfl, by decide, by decide, by decide +kernel⟩ ⟨Nat.le_of_ble_eq_true rfl, Nat.le_of_ble_eq_true rfl⟩) (mPc_pre _ (va_P_r hP) hK (va_D_r hD)) rfl rfl hl.1 rfl (lv_room (Nat.le_of_ble_eq_true rfl)) d_W_282 ⟨by show cells + 5 + 0 ≤ 601024; omega, by show slots + 30 + 0 ≤ 7293034; omega⟩) hS (fun q _ h => hFc q h) hFc (fun u t H1 locs ht hvm hw hB1 hz1 hk1 hS => ?_)
  have hu : u = (zWrite r (xs (i + 1)) (xs (i + 2)) ((((xs (i + 3)).toInt64) <<< (Int32.toInt64 (nI 32) &&& 63)) ||| (((xs (i + 4)).toInt64) &&& 4294967295))) := hw
  have hB2 : va_P (dC, dI) vwC (mW k a u) H1 := by rw [← ht]; exact hB1
  rw [hu] at hB2
  have hP : va_P (dC, dI) vwC (qW k b o a ((yWrite d (xs (i + 1)) (xs (i + 2)) ((((xs (i + 3)).toInt64) <<< (Int32.toInt64 (nI 32) &&& 63)) ||| (((xs (i + 4)).toInt64) &&& 4294967295))).2) g2 (zWrite r (xs (i + 1)) (xs (i + 2)) ((((xs (i + 3)).toInt64) <<< (Int32.toInt64 (nI 32) &&& 63)) ||| (((xs (i + 4)).toInt64) &&& 4294967295)))) H1 := xq_r hP hD hB2 hk1
  have hD : va_D (xA s) (qW k b o a ((yWrite d (xs (i + 1)) (xs (i + 2)) ((((xs (i + 3)).toInt64) <<< (Int32.toInt64 (nI 32) &&& 63)) ||| (((xs (i + 4)).toInt64) &&& 4294967295))).2) g2 (zWrite r (xs (i + 1)) (xs (i + 2)) ((((xs (i + 3)).toInt64) <<< (Int32.toInt64 (nI 32) &&& 63)) ||| (((xs (i + 4)).toInt64) &&& 4294967295)))) := qW_D hDk
  clear hFc hB1 hB2 hk1 hz1 ht hvm
  generalize H1 = H at hP hS ⊢
  refine lv_aload_n hx hb d_W_285 rfl (lv_at hl 3 rfl) ?_
  refine vp_callSi (va_Run.run (va_runV (As := []) (rest := []) ⟨hx, hb, hml, hown, hB⟩ (m_M_thrown l dC dI k a (zWrite r (xs (i + 1)) (xs (i + 2)) ((((xs (i + 3)).toInt64) <<< (Int32.toInt64 (nI 32) &&& 63)) ||| (((xs (i + 4)).toInt64) &&& 4294967295)))) (cwV 0 hB (BIG_V bw_379 bw_380 bw_381 bw_18 bw_382) rfl rfl rfl ⟨rfl, by decide, by decide, by decide +kernel⟩ ⟨Nat.le_of_ble_eq_true rfl, Nat.le_of_ble_eq_true rfl⟩) (mRc_pre _ (va_P_r hP) hK) rfl rfl hl.1 rfl (lv_room (Nat.le_of_ble_eq_true rfl)) d_W_286 ⟨by show cells + 5 + 0 + 0 ≤ 601024; omega, by show slots + 30 + 0 + 0 ≤ 7293034; omega⟩)) (fun r7 hr7 => ?_)
  subst hr7
  refine W.eq (g2 := F0 m 289 ls [.int (zE (zWrite r (xs (i + 1)) (xs (i + 2)) ((((xs (i + 3)).toInt64) <<< (Int32.toInt64 (nI 32) &&& 63)) ||| (((xs (i + 4)).toInt64) &&& 4294967295))))]) (rfl) ?_
  have hsim := sim_write hSim (xs (i + 1)) (xs (i + 2)) ((((xs (i + 3)).toInt64) <<< (Int32.toInt64 (nI 32) &&& 63)) ||| (((xs (i + 4)).toInt64) &&& 4294967295))
  refine lv_iload hx hb d_W_289 (lv_at hl 0 rfl) ?_
  refine lv_icmp_eq hx hb d_W_291 rfl (fun _ => ?_) (fun h9 => absurd (hsim.1) h9)
  refine lv_goto hx hb d_W_296 rfl ?_
  exact kk H _ ls _ _ _ ⟨hl.1, hl.2.1, fun q hq => hl.2.2 q (by simp only [List.mem_cons, List.not_mem_nil, or_false] at hq ⊢; rcases hq with h | h | h | h | h <;> simp [h])⟩ hP hD hS (Sim.wide hsim.2 (fun _ _ => Nat.le_succ _))
