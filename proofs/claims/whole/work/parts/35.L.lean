/-! The law calls the desk: thirteen wrappers, each with its table of handlers. -/
theorem updL_0 (g : Nat → Int64) (x : Int64) : vp_updL g 0 x 0 = x := by simp [vp_updL]
set_option maxHeartbeats 4000000 in
set_option maxRecDepth 100000 in
theorem m_L_begin (l : Launch) (dC : Nat → ClassId) (dI : Nat → Nat → Nat) (k : Nat → ClassId) (b : Nat → Nat) (o sz : Nat) (d : xDS) (g : Nat → Int64) (tt : Int32) (htr : l.stackTraces = false) : Met l y_L_begin w_L_begin (rmx 10 5 30 171) (lPc dC dI k b o sz d g [.ref (b 0), .int tt]) (va_Qi (fun r (u : xDS × (Nat → Int64)) => r = cdOf [qA, qS] (yBegin d tt).1 ∧ u.1 = (yBegin d tt).2) (lB dC dI k b o) (va_A (lW k b o d g) sz)) 5 30 (va_A (lW k b o d g) sz) := by
  refine va_MetW (cc := c_L_begin) (maxL := 3) (ret := some .int) (hh := [(0, 5, 8, 13), (0, 5, 11, 15)]) (by decide) rfl ?_
  intro p e s m args below meth c s₁ B hml hv
  obtain ⟨rfl, hsz, hP, hK, hD0, hTh, hCt⟩ := hv
  have hx := B.exec
  have hb := B.bytes
  have hr := B.returns
  have hts := atoms_spec (ws := w_L_begin) B.pre
  have hB : ∀ w ∈ BIG, w.before _ s = true := fun w h => hts w (List.mem_cons_of_mem _ h)
  have hown : s.vm.findClass R_L = some m.cls := findClass_of_methodNamed B.named
  have hlocks := B.notSynchronized
  have htb : c.exceptionTable.toList.map (fun h => (h.startPc, h.endPc, h.handlerPc, h.catchType)) = [(0, 5, 8, 13), (0, 5, 11, 15)] := by
    obtain ⟨m9, meth9, c9, e1, e2, e3, -, -, e4, -⟩ := Cond.codeWith_spec (hts _ List.mem_cons_self)
    cases (B.named.symm.trans e1)
    cases (B.method.symm.trans e2)
    cases ((Stand.of_body B).code.symm.trans e3)
    exact e4
  obtain ⟨x1, L1, hL1, hv1, hp1, hc1, htb⟩ := tab_cons htb
  obtain ⟨x2, L2, hL2, hv2, hp2, hc2, htb⟩ := tab_cons htb
  have hLn := tab_nil htb
  subst hLn
  subst hL2
  have hl := lv_entry ([.ref (b 0), .int tt]) (n := 3) (Nat.le_of_ble_eq_true rfl)
  rw [lg_entry_eq]
  generalize (lg_sl ([.ref (b 0), .int tt]) ++ List.replicate (3 - (lg_sl ([.ref (b 0), .int tt])).length) Slot.unset).toArray = ls at hl ⊢
  have hl : lv_has ls 3 [(0, .ref (b 0)), (1, .int tt)] := hl
  subst hsz
  have hst := xs_world hP
  have hD := hD0.self (sz := s.heap.size)
  generalize hAe : va_A (lW k b o d g) s.heap.size = A at hD hst ⊢
  have hA : ∀ q : Nat, s.heap.size ≤ q → A q := fun q h => by rw [← hAe]; exact Or.inr h
  have hS : va_S A s.heap s.heap [] := va_S.rf
  have hDk := hD
  refine lv_aload_n hx hb d_L_begin_0 rfl (lv_at hl 0 rfl) ?_
  refine lv_iload_n hx hb d_L_begin_1 rfl (lv_at hl 1 rfl) ?_
  have hFc := lW_free hD hS hA
  refine xt_cont (xt_runV (As := [.int tt]) (rest := []) ⟨hx, hb, hml, hown, hB⟩ (m_D_begin l dC dI k b _ d tt htr) (cwV 1 hB (BIG_V bw_72 bw_73 bw_74 bw_16 bw_75) rfl rfl rfl ⟨rfl, by decide, by decide, by decide +kernel⟩ ⟨Nat.le_of_ble_eq_true rfl, Nat.le_of_ble_eq_true rfl⟩) (dPc_pre _ (lW_P hP) hK (lW_Dd hD) hTh (xs_keep.of hS hst)) rfl rfl hl.1 rfl (lv_room (Nat.le_of_ble_eq_true rfl)) d_L_begin_2 ⟨Nat.le_of_ble_eq_true rfl, Nat.le_of_ble_eq_true rfl⟩) hS (fun q _ h => hFc q h) hFc ?_ (fun X x8 u t H1 locs ht hvm hw hB1 hI hx1 hz1 hk1 hS => ?_)
  · intro v8 u t H1 locs ht hvm hw hB1 hz1 hk1 hS
    obtain ⟨rfl, hw⟩ := hw
    have hP : va_P (dC, dI) vwC (lW k b o u g) H1 := lW_join hP hD (by rw [← ht]; exact hB1) hk1
    have hD : va_D A (lW k b o u g) := lW_D hDk
    clear hFc hB1 hk1 hz1 ht hvm
    generalize H1 = H at hP hS ⊢
    refine W.eq (g2 := F0 m 5 ls []) (rfl) ?_
    refine lv_goto hx hb d_L_begin_5 rfl ?_
    refine lv_iconst (v := 0) hx hb d_L_begin_14 (by decide) ?_
    exact mq_up (Nat.le_of_ble_eq_true rfl) (Nat.le_of_ble_eq_true rfl) (W.iret (v := 0) hx hb hr (fun t ht hW => ⟨⟨0, (u, g), rfl, ⟨by rw [← hw]; rfl, by rw [← hw]⟩, by show va_P (dC, dI) vwC _ t.heap; rw [ht]; exact hP⟩, hS.F ht⟩) hS.2.2 d_L_begin_15)
  · skip
    have hP : va_P (dC, dI) vwC (lW k b o u g) H1 := lW_join hP hD (by rw [← ht]; exact hB1) hk1
    have hD : va_D A (lW k b o u g) := lW_D hDk
    obtain ⟨cell, hcell, hcls, hvn⟩ := hI
    rw [ht] at hcell
    rw [hvm.findClass] at hcls
    rcases xb_begin hw with rfl | rfl
    · skip
      refine xc_catch hown hcell hvn hcls x1 qA [x2] [] hL1 (tab_cov hv1 (Nat.le_of_ble_eq_true rfl) (Nat.le_of_ble_eq_true rfl)) (by rw [hc1]; decide) (by rw [hc1]; exact hB _ bw_70) (hCt.y 0 rfl) (fun _ h => absurd h List.not_mem_nil) ?_
      rw [hp1]
      refine lv_astore_n hx hb d_L_begin_8 rfl hl (by decide) rfl (fun ls hl => ?_)
      have hl : lv_has ls 3 [(2, .ref x8), (0, .ref (b 0)), (1, .int tt)] := hl
      refine lv_iconst (v := 1) hx hb d_L_begin_9 (by decide) ?_
      exact mq_up (Nat.le_of_ble_eq_true rfl) (Nat.le_of_ble_eq_true rfl) (W.iret (v := 1) hx hb hr (fun t ht hW => ⟨⟨1, (u, g), rfl, ⟨(by rw [← hw]; exact (by decide +kernel : (1 : Int32) = cdOf [qA, qS] (some qA))), by rw [← hw]⟩, by show va_P (dC, dI) vwC _ t.heap; rw [ht]; exact hP⟩, hS.F ht⟩) hS.2.2 d_L_begin_10)
    · skip
      refine xc_catch hown hcell hvn hcls x2 qS [] [(x1, qA)] hL1 (tab_cov hv2 (Nat.le_of_ble_eq_true rfl) (Nat.le_of_ble_eq_true rfl)) (by rw [hc2]; decide) (by rw [hc2]; exact hB _ bw_71) (hCt.y 1 rfl) (List.forall_mem_cons.mpr ⟨⟨tab_cov hv1 (Nat.le_of_ble_eq_true rfl) (Nat.le_of_ble_eq_true rfl), by rw [hc1]; decide, by rw [hc1]; exact hB _ bw_70, hCt.n 3 rfl⟩, (fun _ h => absurd h List.not_mem_nil)⟩) ?_
      rw [hp2]
      refine lv_astore_n hx hb d_L_begin_11 rfl hl (by decide) rfl (fun ls hl => ?_)
      have hl : lv_has ls 3 [(2, .ref x8), (0, .ref (b 0)), (1, .int tt)] := hl
      refine lv_iconst (v := 2) hx hb d_L_begin_12 (by decide) ?_
      exact mq_up (Nat.le_of_ble_eq_true rfl) (Nat.le_of_ble_eq_true rfl) (W.iret (v := 2) hx hb hr (fun t ht hW => ⟨⟨2, (u, g), rfl, ⟨(by rw [← hw]; exact (by decide +kernel : (2 : Int32) = cdOf [qA, qS] (some qS))), by rw [← hw]⟩, by show va_P (dC, dI) vwC _ t.heap; rw [ht]; exact hP⟩, hS.F ht⟩) hS.2.2 d_L_begin_13)
set_option maxHeartbeats 4000000 in
set_option maxRecDepth 100000 in
theorem m_L_read (l : Launch) (dC : Nat → ClassId) (dI : Nat → Nat → Nat) (k : Nat → ClassId) (b : Nat → Nat) (o sz : Nat) (d : xDS) (g : Nat → Int64) (tt : Int32) (kk : Int32) (htr : l.stackTraces = false) (hok : dOk d) : Met l y_L_read w_L_read (rmx 10 5 30 171) (lPc dC dI k b o sz d g [.ref (b 0), .int tt, .int kk, .ref o]) (va_Qi (fun r (u : xDS × (Nat → Int64)) => r = cdOf [qA, qB, qS, qU] (yRead d tt kk).1.1 ∧ u.1 = (yRead d tt kk).2 ∧ ((yRead d tt kk).1.1 = none → u.2 0 = (yRead d tt kk).1.2)) (lB dC dI k b o) (va_A (lW k b o d g) sz)) 5 30 (va_A (lW k b o d g) sz) := by
  refine va_MetW (cc := c_L_read) (maxL := 5) (ret := some .int) (hh := [(0, 9, 12, 13), (0, 9, 16, 21), (0, 9, 20, 15), (0, 9, 24, 23)]) (by decide) rfl ?_
  intro p e s m args below meth c s₁ B hml hv
  obtain ⟨rfl, hsz, hP, hK, hD0, hTh, hCt⟩ := hv
  have hx := B.exec
  have hb := B.bytes
  have hr := B.returns
  have hts := atoms_spec (ws := w_L_read) B.pre
  have hB : ∀ w ∈ BIG, w.before _ s = true := fun w h => hts w (List.mem_cons_of_mem _ h)
  have hown : s.vm.findClass R_L = some m.cls := findClass_of_methodNamed B.named
  have hlocks := B.notSynchronized
  have htb : c.exceptionTable.toList.map (fun h => (h.startPc, h.endPc, h.handlerPc, h.catchType)) = [(0, 9, 12, 13), (0, 9, 16, 21), (0, 9, 20, 15), (0, 9, 24, 23)] := by
    obtain ⟨m9, meth9, c9, e1, e2, e3, -, -, e4, -⟩ := Cond.codeWith_spec (hts _ List.mem_cons_self)
    cases (B.named.symm.trans e1)
    cases (B.method.symm.trans e2)
    cases ((Stand.of_body B).code.symm.trans e3)
    exact e4
  obtain ⟨x1, L1, hL1, hv1, hp1, hc1, htb⟩ := tab_cons htb
  obtain ⟨x2, L2, hL2, hv2, hp2, hc2, htb⟩ := tab_cons htb
  obtain ⟨x3, L3, hL3, hv3, hp3, hc3, htb⟩ := tab_cons htb
  obtain ⟨x4, L4, hL4, hv4, hp4, hc4, htb⟩ := tab_cons htb
  have hLn := tab_nil htb
  subst hLn
  subst hL4
  subst hL3
  subst hL2
  have hl := lv_entry ([.ref (b 0), .int tt, .int kk, .ref o]) (n := 5) (Nat.le_of_ble_eq_true rfl)
  rw [lg_entry_eq]
  generalize (lg_sl ([.ref (b 0), .int tt, .int kk, .ref o]) ++ List.replicate (5 - (lg_sl ([.ref (b 0), .int tt, .int kk, .ref o])).length) Slot.unset).toArray = ls at hl ⊢
  have hl : lv_has ls 5 [(0, .ref (b 0)), (1, .int tt), (2, .int kk), (3, .ref o)] := hl
  subst hsz
  have hst := xs_world hP
  have hD := hD0.self (sz := s.heap.size)
  generalize hAe : va_A (lW k b o d g) s.heap.size = A at hD hst ⊢
  have hA : ∀ q : Nat, s.heap.size ≤ q → A q := fun q h => by rw [← hAe]; exact Or.inr h
  have hS : va_S A s.heap s.heap [] := va_S.rf
  have hDk := hD
  refine lv_aload_n hx hb d_L_read_0 rfl (lv_at hl 3 rfl) ?_
  refine lv_iconst (v := nI 0) hx hb d_L_read_1 (by decide) ?_
  refine lv_aload_n hx hb d_L_read_2 rfl (lv_at hl 0 rfl) ?_
  refine lv_iload_n hx hb d_L_read_3 rfl (lv_at hl 1 rfl) ?_
  refine lv_iload_n hx hb d_L_read_4 rfl (lv_at hl 2 rfl) ?_
  have hFc := lW_free hD hS hA
  refine xt_cont (xt_runV (As := [.int tt, .int kk]) (rest := [.int (nI 0), .ref o]) ⟨hx, hb, hml, hown, hB⟩ (m_D_read l dC dI k b _ d tt kk htr hok) (cwV 2 hB (BIG_V bw_154 bw_155 bw_156 bw_16 bw_157) rfl rfl rfl ⟨rfl, by decide, by decide, by decide +kernel⟩ ⟨Nat.le_of_ble_eq_true rfl, Nat.le_of_ble_eq_true rfl⟩) (dPc_pre _ (lW_P hP) hK (lW_Dd hD) hTh (xs_keep.of hS hst)) rfl rfl hl.1 rfl (lv_room (Nat.le_of_ble_eq_true rfl)) d_L_read_5 ⟨Nat.le_of_ble_eq_true rfl, Nat.le_of_ble_eq_true rfl⟩) hS (fun q _ h => hFc q h) hFc ?_ (fun X x8 u t H1 locs ht hvm hw hB1 hI hx1 hz1 hk1 hS => ?_)
  · intro v8 u t H1 locs ht hvm hw hB1 hz1 hk1 hS
    obtain ⟨x9, rfl, hw⟩ := hw
    have hP : va_P (dC, dI) vwC (lW k b o u g) H1 := lW_join hP hD (by rw [← ht]; exact hB1) hk1
    have hD : va_D A (lW k b o u g) := lW_D hDk
    clear hFc hB1 hk1 hz1 ht hvm
    generalize H1 = H at hP hS ⊢
    refine W.eq (g2 := F0 m 8 ls [.long x9, .int (nI 0), .ref o]) (rfl) ?_
    refine va_last hx hb hK hP hD hS 0 1 rfl rfl (pk_in 0 1 (by omega)) d_L_read_8 (fun H locs hP hD hS => ?_)
    rw [cl_nI (by omega)] at hP
    have hP : va_P (dC, dI) vwC (lW k b o u (vp_updL g 0 x9)) H := hP
    refine lv_goto hx hb d_L_read_9 rfl ?_
    refine lv_iconst (v := 0) hx hb d_L_read_28 (by decide) ?_
    exact mq_up (Nat.le_of_ble_eq_true rfl) (Nat.le_of_ble_eq_true rfl) (W.iret (v := 0) hx hb hr (fun t ht hW => ⟨⟨0, (u, vp_updL g 0 x9), rfl, ⟨by rw [← hw]; rfl, by rw [← hw], fun _ => by rw [← hw]; exact updL_0 g _⟩, by show va_P (dC, dI) vwC _ t.heap; rw [ht]; exact hP⟩, hS.F ht⟩) hS.2.2 d_L_read_29)
  · skip
    have hP : va_P (dC, dI) vwC (lW k b o u g) H1 := lW_join hP hD (by rw [← ht]; exact hB1) hk1
    have hD : va_D A (lW k b o u g) := lW_D hDk
    obtain ⟨cell, hcell, hcls, hvn⟩ := hI
    rw [ht] at hcell
    rw [hvm.findClass] at hcls
    rcases xb_read hw with rfl | rfl | rfl | rfl
    · skip
      refine xc_catch hown hcell hvn hcls x1 qA [x2, x3, x4] [] hL1 (tab_cov hv1 (Nat.le_of_ble_eq_true rfl) (Nat.le_of_ble_eq_true rfl)) (by rw [hc1]; decide) (by rw [hc1]; exact hB _ bw_70) (hCt.y 0 rfl) (fun _ h => absurd h List.not_mem_nil) ?_
      rw [hp1]
      refine lv_astore hx hb d_L_read_12 hl (by decide) rfl (fun ls hl => ?_)
      have hl : lv_has ls 5 [(4, .ref x8), (0, .ref (b 0)), (1, .int tt), (2, .int kk), (3, .ref o)] := hl
      refine lv_iconst (v := 1) hx hb d_L_read_14 (by decide) ?_
      exact mq_up (Nat.le_of_ble_eq_true rfl) (Nat.le_of_ble_eq_true rfl) (W.iret (v := 1) hx hb hr (fun t ht hW => ⟨⟨1, (u, g), rfl, ⟨(by rw [← hw]; exact (by decide +kernel : (1 : Int32) = cdOf [qA, qB, qS, qU] (some qA))), by rw [← hw], by rw [← hw]; intro h; cases h⟩, by show va_P (dC, dI) vwC _ t.heap; rw [ht]; exact hP⟩, hS.F ht⟩) hS.2.2 d_L_read_15)
    · skip
      refine xc_catch hown hcell hvn hcls x2 qB [x3, x4] [(x1, qA)] hL1 (tab_cov hv2 (Nat.le_of_ble_eq_true rfl) (Nat.le_of_ble_eq_true rfl)) (by rw [hc2]; decide) (by rw [hc2]; exact hB _ bw_152) (hCt.y 2 rfl) (List.forall_mem_cons.mpr ⟨⟨tab_cov hv1 (Nat.le_of_ble_eq_true rfl) (Nat.le_of_ble_eq_true rfl), by rw [hc1]; decide, by rw [hc1]; exact hB _ bw_70, hCt.n 6 rfl⟩, (fun _ h => absurd h List.not_mem_nil)⟩) ?_
      rw [hp2]
      refine lv_astore hx hb d_L_read_16 hl (by decide) rfl (fun ls hl => ?_)
      have hl : lv_has ls 5 [(4, .ref x8), (0, .ref (b 0)), (1, .int tt), (2, .int kk), (3, .ref o)] := hl
      refine lv_iconst (v := 2) hx hb d_L_read_18 (by decide) ?_
      exact mq_up (Nat.le_of_ble_eq_true rfl) (Nat.le_of_ble_eq_true rfl) (W.iret (v := 2) hx hb hr (fun t ht hW => ⟨⟨2, (u, g), rfl, ⟨(by rw [← hw]; exact (by decide +kernel : (2 : Int32) = cdOf [qA, qB, qS, qU] (some qB))), by rw [← hw], by rw [← hw]; intro h; cases h⟩, by show va_P (dC, dI) vwC _ t.heap; rw [ht]; exact hP⟩, hS.F ht⟩) hS.2.2 d_L_read_19)
    · skip
      refine xc_catch hown hcell hvn hcls x3 qS [x4] [(x1, qA), (x2, qB)] hL1 (tab_cov hv3 (Nat.le_of_ble_eq_true rfl) (Nat.le_of_ble_eq_true rfl)) (by rw [hc3]; decide) (by rw [hc3]; exact hB _ bw_71) (hCt.y 1 rfl) (List.forall_mem_cons.mpr ⟨⟨tab_cov hv1 (Nat.le_of_ble_eq_true rfl) (Nat.le_of_ble_eq_true rfl), by rw [hc1]; decide, by rw [hc1]; exact hB _ bw_70, hCt.n 3 rfl⟩, (List.forall_mem_cons.mpr ⟨⟨tab_cov hv2 (Nat.le_of_ble_eq_true rfl) (Nat.le_of_ble_eq_true rfl), by rw [hc2]; decide, by rw [hc2]; exact hB _ bw_152, hCt.n 4 rfl⟩, (fun _ h => absurd h List.not_mem_nil)⟩)⟩) ?_
      rw [hp3]
      refine lv_astore hx hb d_L_read_20 hl (by decide) rfl (fun ls hl => ?_)
      have hl : lv_has ls 5 [(4, .ref x8), (0, .ref (b 0)), (1, .int tt), (2, .int kk), (3, .ref o)] := hl
      refine lv_iconst (v := 3) hx hb d_L_read_22 (by decide) ?_
      exact mq_up (Nat.le_of_ble_eq_true rfl) (Nat.le_of_ble_eq_true rfl) (W.iret (v := 3) hx hb hr (fun t ht hW => ⟨⟨3, (u, g), rfl, ⟨(by rw [← hw]; exact (by decide +kernel : (3 : Int32) = cdOf [qA, qB, qS, qU] (some qS))), by rw [← hw], by rw [← hw]; intro h; cases h⟩, by show va_P (dC, dI) vwC _ t.heap; rw [ht]; exact hP⟩, hS.F ht⟩) hS.2.2 d_L_read_23)
    · skip
      refine xc_catch hown hcell hvn hcls x4 qU [] [(x1, qA), (x2, qB), (x3, qS)] hL1 (tab_cov hv4 (Nat.le_of_ble_eq_true rfl) (Nat.le_of_ble_eq_true rfl)) (by rw [hc4]; decide) (by rw [hc4]; exact hB _ bw_153) (hCt.y 3 rfl) (List.forall_mem_cons.mpr ⟨⟨tab_cov hv1 (Nat.le_of_ble_eq_true rfl) (Nat.le_of_ble_eq_true rfl), by rw [hc1]; decide, by rw [hc1]; exact hB _ bw_70, hCt.n 9 rfl⟩, (List.forall_mem_cons.mpr ⟨⟨tab_cov hv2 (Nat.le_of_ble_eq_true rfl) (Nat.le_of_ble_eq_true rfl), by rw [hc2]; decide, by rw [hc2]; exact hB _ bw_152, hCt.n 11 rfl⟩, (List.forall_mem_cons.mpr ⟨⟨tab_cov hv3 (Nat.le_of_ble_eq_true rfl) (Nat.le_of_ble_eq_true rfl), by rw [hc3]; decide, by rw [hc3]; exact hB _ bw_71, hCt.n 10 rfl⟩, (fun _ h => absurd h List.not_mem_nil)⟩)⟩)⟩) ?_
      rw [hp4]
      refine lv_astore hx hb d_L_read_24 hl (by decide) rfl (fun ls hl => ?_)
      have hl : lv_has ls 5 [(4, .ref x8), (0, .ref (b 0)), (1, .int tt), (2, .int kk), (3, .ref o)] := hl
      refine lv_iconst (v := 4) hx hb d_L_read_26 (by decide) ?_
      exact mq_up (Nat.le_of_ble_eq_true rfl) (Nat.le_of_ble_eq_true rfl) (W.iret (v := 4) hx hb hr (fun t ht hW => ⟨⟨4, (u, g), rfl, ⟨(by rw [← hw]; exact (by decide +kernel : (4 : Int32) = cdOf [qA, qB, qS, qU] (some qU))), by rw [← hw], by rw [← hw]; intro h; cases h⟩, by show va_P (dC, dI) vwC _ t.heap; rw [ht]; exact hP⟩, hS.F ht⟩) hS.2.2 d_L_read_27)
set_option maxHeartbeats 4000000 in
set_option maxRecDepth 100000 in
theorem m_L_write (l : Launch) (dC : Nat → ClassId) (dI : Nat → Nat → Nat) (k : Nat → ClassId) (b : Nat → Nat) (o sz : Nat) (d : xDS) (g : Nat → Int64) (tt : Int32) (kk : Int32) (x : Int64) (htr : l.stackTraces = false) (hok : dOk d) : Met l y_L_write w_L_write (rmx 10 5 30 171) (lPc dC dI k b o sz d g [.ref (b 0), .int tt, .int kk, .long x]) (va_Qi (fun r (u : xDS × (Nat → Int64)) => r = cdOf [qA, qB, qS] (yWrite d tt kk x).1 ∧ u.1 = (yWrite d tt kk x).2) (lB dC dI k b o) (va_A (lW k b o d g) sz)) 5 30 (va_A (lW k b o d g) sz) := by
  refine va_MetW (cc := c_L_write) (maxL := 6) (ret := some .int) (hh := [(0, 7, 10, 13), (0, 7, 14, 21), (0, 7, 18, 15)]) (by decide) rfl ?_
  intro p e s m args below meth c s₁ B hml hv
  obtain ⟨rfl, hsz, hP, hK, hD0, hTh, hCt⟩ := hv
  have hx := B.exec
  have hb := B.bytes
  have hr := B.returns
  have hts := atoms_spec (ws := w_L_write) B.pre
  have hB : ∀ w ∈ BIG, w.before _ s = true := fun w h => hts w (List.mem_cons_of_mem _ h)
  have hown : s.vm.findClass R_L = some m.cls := findClass_of_methodNamed B.named
  have hlocks := B.notSynchronized
  have htb : c.exceptionTable.toList.map (fun h => (h.startPc, h.endPc, h.handlerPc, h.catchType)) = [(0, 7, 10, 13), (0, 7, 14, 21), (0, 7, 18, 15)] := by
    obtain ⟨m9, meth9, c9, e1, e2, e3, -, -, e4, -⟩ := Cond.codeWith_spec (hts _ List.mem_cons_self)
    cases (B.named.symm.trans e1)
    cases (B.method.symm.trans e2)
    cases ((Stand.of_body B).code.symm.trans e3)
    exact e4
  obtain ⟨x1, L1, hL1, hv1, hp1, hc1, htb⟩ := tab_cons htb
  obtain ⟨x2, L2, hL2, hv2, hp2, hc2, htb⟩ := tab_cons htb
  obtain ⟨x3, L3, hL3, hv3, hp3, hc3, htb⟩ := tab_cons htb
  have hLn := tab_nil htb
  subst hLn
  subst hL3
  subst hL2
  have hl := lv_entry ([.ref (b 0), .int tt, .int kk, .long x]) (n := 6) (Nat.le_of_ble_eq_true rfl)
  rw [lg_entry_eq]
  generalize (lg_sl ([.ref (b 0), .int tt, .int kk, .long x]) ++ List.replicate (6 - (lg_sl ([.ref (b 0), .int tt, .int kk, .long x])).length) Slot.unset).toArray = ls at hl ⊢
  have hl : lv_has ls 6 [(0, .ref (b 0)), (1, .int tt), (2, .int kk), (3, .long x)] := hl
  subst hsz
  have hst := xs_world hP
  have hD := hD0.self (sz := s.heap.size)
  generalize hAe : va_A (lW k b o d g) s.heap.size = A at hD hst ⊢
  have hA : ∀ q : Nat, s.heap.size ≤ q → A q := fun q h => by rw [← hAe]; exact Or.inr h
  have hS : va_S A s.heap s.heap [] := va_S.rf
  have hDk := hD
  refine lv_aload_n hx hb d_L_write_0 rfl (lv_at hl 0 rfl) ?_
  refine lv_iload_n hx hb d_L_write_1 rfl (lv_at hl 1 rfl) ?_
  refine lv_iload_n hx hb d_L_write_2 rfl (lv_at hl 2 rfl) ?_
  refine lv_lload_n hx hb d_L_write_3 rfl (lv_at hl 3 rfl) ?_
  have hFc := lW_free hD hS hA
  refine xt_cont (xt_runV (As := [.int tt, .int kk, .long x]) (rest := []) ⟨hx, hb, hml, hown, hB⟩ (m_D_write l dC dI k b _ d tt kk x htr hok) (cwV 3 hB (BIG_V bw_224 bw_225 bw_226 bw_16 bw_227) rfl rfl rfl ⟨rfl, by decide, by decide, by decide +kernel⟩ ⟨Nat.le_of_ble_eq_true rfl, Nat.le_of_ble_eq_true rfl⟩) (dPc_pre _ (lW_P hP) hK (lW_Dd hD) hTh (xs_keep.of hS hst)) rfl rfl hl.1 rfl (lv_room (Nat.le_of_ble_eq_true rfl)) d_L_write_4 ⟨Nat.le_of_ble_eq_true rfl, Nat.le_of_ble_eq_true rfl⟩) hS (fun q _ h => hFc q h) hFc ?_ (fun X x8 u t H1 locs ht hvm hw hB1 hI hx1 hz1 hk1 hS => ?_)
  · intro v8 u t H1 locs ht hvm hw hB1 hz1 hk1 hS
    obtain ⟨rfl, hw⟩ := hw
    have hP : va_P (dC, dI) vwC (lW k b o u g) H1 := lW_join hP hD (by rw [← ht]; exact hB1) hk1
    have hD : va_D A (lW k b o u g) := lW_D hDk
    clear hFc hB1 hk1 hz1 ht hvm
    generalize H1 = H at hP hS ⊢
    refine W.eq (g2 := F0 m 7 ls []) (rfl) ?_
    refine lv_goto hx hb d_L_write_7 rfl ?_
    refine lv_iconst (v := 0) hx hb d_L_write_22 (by decide) ?_
    exact mq_up (Nat.le_of_ble_eq_true rfl) (Nat.le_of_ble_eq_true rfl) (W.iret (v := 0) hx hb hr (fun t ht hW => ⟨⟨0, (u, g), rfl, ⟨by rw [← hw]; rfl, by rw [← hw]⟩, by show va_P (dC, dI) vwC _ t.heap; rw [ht]; exact hP⟩, hS.F ht⟩) hS.2.2 d_L_write_23)
  · skip
    have hP : va_P (dC, dI) vwC (lW k b o u g) H1 := lW_join hP hD (by rw [← ht]; exact hB1) hk1
    have hD : va_D A (lW k b o u g) := lW_D hDk
    obtain ⟨cell, hcell, hcls, hvn⟩ := hI
    rw [ht] at hcell
    rw [hvm.findClass] at hcls
    rcases xb_write hw with rfl | rfl | rfl
    · skip
      refine xc_catch hown hcell hvn hcls x1 qA [x2, x3] [] hL1 (tab_cov hv1 (Nat.le_of_ble_eq_true rfl) (Nat.le_of_ble_eq_true rfl)) (by rw [hc1]; decide) (by rw [hc1]; exact hB _ bw_70) (hCt.y 0 rfl) (fun _ h => absurd h List.not_mem_nil) ?_
      rw [hp1]
      refine lv_astore hx hb d_L_write_10 hl (by decide) rfl (fun ls hl => ?_)
      have hl : lv_has ls 6 [(5, .ref x8), (0, .ref (b 0)), (1, .int tt), (2, .int kk), (3, .long x)] := hl
      refine lv_iconst (v := 1) hx hb d_L_write_12 (by decide) ?_
      exact mq_up (Nat.le_of_ble_eq_true rfl) (Nat.le_of_ble_eq_true rfl) (W.iret (v := 1) hx hb hr (fun t ht hW => ⟨⟨1, (u, g), rfl, ⟨(by rw [← hw]; exact (by decide +kernel : (1 : Int32) = cdOf [qA, qB, qS] (some qA))), by rw [← hw]⟩, by show va_P (dC, dI) vwC _ t.heap; rw [ht]; exact hP⟩, hS.F ht⟩) hS.2.2 d_L_write_13)
    · skip
      refine xc_catch hown hcell hvn hcls x2 qB [x3] [(x1, qA)] hL1 (tab_cov hv2 (Nat.le_of_ble_eq_true rfl) (Nat.le_of_ble_eq_true rfl)) (by rw [hc2]; decide) (by rw [hc2]; exact hB _ bw_152) (hCt.y 2 rfl) (List.forall_mem_cons.mpr ⟨⟨tab_cov hv1 (Nat.le_of_ble_eq_true rfl) (Nat.le_of_ble_eq_true rfl), by rw [hc1]; decide, by rw [hc1]; exact hB _ bw_70, hCt.n 6 rfl⟩, (fun _ h => absurd h List.not_mem_nil)⟩) ?_
      rw [hp2]
      refine lv_astore hx hb d_L_write_14 hl (by decide) rfl (fun ls hl => ?_)
      have hl : lv_has ls 6 [(5, .ref x8), (0, .ref (b 0)), (1, .int tt), (2, .int kk), (3, .long x)] := hl
      refine lv_iconst (v := 2) hx hb d_L_write_16 (by decide) ?_
      exact mq_up (Nat.le_of_ble_eq_true rfl) (Nat.le_of_ble_eq_true rfl) (W.iret (v := 2) hx hb hr (fun t ht hW => ⟨⟨2, (u, g), rfl, ⟨(by rw [← hw]; exact (by decide +kernel : (2 : Int32) = cdOf [qA, qB, qS] (some qB))), by rw [← hw]⟩, by show va_P (dC, dI) vwC _ t.heap; rw [ht]; exact hP⟩, hS.F ht⟩) hS.2.2 d_L_write_17)
    · skip
      refine xc_catch hown hcell hvn hcls x3 qS [] [(x1, qA), (x2, qB)] hL1 (tab_cov hv3 (Nat.le_of_ble_eq_true rfl) (Nat.le_of_ble_eq_true rfl)) (by rw [hc3]; decide) (by rw [hc3]; exact hB _ bw_71) (hCt.y 1 rfl) (List.forall_mem_cons.mpr ⟨⟨tab_cov hv1 (Nat.le_of_ble_eq_true rfl) (Nat.le_of_ble_eq_true rfl), by rw [hc1]; decide, by rw [hc1]; exact hB _ bw_70, hCt.n 3 rfl⟩, (List.forall_mem_cons.mpr ⟨⟨tab_cov hv2 (Nat.le_of_ble_eq_true rfl) (Nat.le_of_ble_eq_true rfl), by rw [hc2]; decide, by rw [hc2]; exact hB _ bw_152, hCt.n 4 rfl⟩, (fun _ h => absurd h List.not_mem_nil)⟩)⟩) ?_
      rw [hp3]
      refine lv_astore hx hb d_L_write_18 hl (by decide) rfl (fun ls hl => ?_)
      have hl : lv_has ls 6 [(5, .ref x8), (0, .ref (b 0)), (1, .int tt), (2, .int kk), (3, .long x)] := hl
      refine lv_iconst (v := 3) hx hb d_L_write_20 (by decide) ?_
      exact mq_up (Nat.le_of_ble_eq_true rfl) (Nat.le_of_ble_eq_true rfl) (W.iret (v := 3) hx hb hr (fun t ht hW => ⟨⟨3, (u, g), rfl, ⟨(by rw [← hw]; exact (by decide +kernel : (3 : Int32) = cdOf [qA, qB, qS] (some qS))), by rw [← hw]⟩, by show va_P (dC, dI) vwC _ t.heap; rw [ht]; exact hP⟩, hS.F ht⟩) hS.2.2 d_L_write_21)
set_option maxHeartbeats 4000000 in
set_option maxRecDepth 100000 in
theorem m_L_save (l : Launch) (dC : Nat → ClassId) (dI : Nat → Nat → Nat) (k : Nat → ClassId) (b : Nat → Nat) (o sz : Nat) (d : xDS) (g : Nat → Int64) (tt : Int32) (htr : l.stackTraces = false) (hok : dOk d) : Met l y_L_save w_L_save (rmx 10 5 30 171) (lPc dC dI k b o sz d g [.ref (b 0), .int tt, .ref o]) (va_Qi (fun r (u : xDS × (Nat → Int64)) => r = cdOf [qA, qS, qU] (ySave d tt).1.1 ∧ u.1 = (ySave d tt).2 ∧ ((ySave d tt).1.1 = none → u.2 0 = (ySave d tt).1.2.toInt64)) (lB dC dI k b o) (va_A (lW k b o d g) sz)) 5 30 (va_A (lW k b o d g) sz) := by
  refine va_MetW (cc := c_L_save) (maxL := 4) (ret := some .int) (hh := [(0, 9, 12, 13), (0, 9, 15, 15), (0, 9, 18, 23)]) (by decide) rfl ?_
  intro p e s m args below meth c s₁ B hml hv
  obtain ⟨rfl, hsz, hP, hK, hD0, hTh, hCt⟩ := hv
  have hx := B.exec
  have hb := B.bytes
  have hr := B.returns
  have hts := atoms_spec (ws := w_L_save) B.pre
  have hB : ∀ w ∈ BIG, w.before _ s = true := fun w h => hts w (List.mem_cons_of_mem _ h)
  have hown : s.vm.findClass R_L = some m.cls := findClass_of_methodNamed B.named
  have hlocks := B.notSynchronized
  have htb : c.exceptionTable.toList.map (fun h => (h.startPc, h.endPc, h.handlerPc, h.catchType)) = [(0, 9, 12, 13), (0, 9, 15, 15), (0, 9, 18, 23)] := by
    obtain ⟨m9, meth9, c9, e1, e2, e3, -, -, e4, -⟩ := Cond.codeWith_spec (hts _ List.mem_cons_self)
    cases (B.named.symm.trans e1)
    cases (B.method.symm.trans e2)
    cases ((Stand.of_body B).code.symm.trans e3)
    exact e4
  obtain ⟨x1, L1, hL1, hv1, hp1, hc1, htb⟩ := tab_cons htb
  obtain ⟨x2, L2, hL2, hv2, hp2, hc2, htb⟩ := tab_cons htb
  obtain ⟨x3, L3, hL3, hv3, hp3, hc3, htb⟩ := tab_cons htb
  have hLn := tab_nil htb
  subst hLn
  subst hL3
  subst hL2
  have hl := lv_entry ([.ref (b 0), .int tt, .ref o]) (n := 4) (Nat.le_of_ble_eq_true rfl)
  rw [lg_entry_eq]
  generalize (lg_sl ([.ref (b 0), .int tt, .ref o]) ++ List.replicate (4 - (lg_sl ([.ref (b 0), .int tt, .ref o])).length) Slot.unset).toArray = ls at hl ⊢
  have hl : lv_has ls 4 [(0, .ref (b 0)), (1, .int tt), (2, .ref o)] := hl
  subst hsz
  have hst := xs_world hP
  have hD := hD0.self (sz := s.heap.size)
  generalize hAe : va_A (lW k b o d g) s.heap.size = A at hD hst ⊢
  have hA : ∀ q : Nat, s.heap.size ≤ q → A q := fun q h => by rw [← hAe]; exact Or.inr h
  have hS : va_S A s.heap s.heap [] := va_S.rf
  have hDk := hD
  refine lv_aload_n hx hb d_L_save_0 rfl (lv_at hl 2 rfl) ?_
  refine lv_iconst (v := nI 0) hx hb d_L_save_1 (by decide) ?_
  refine lv_aload_n hx hb d_L_save_2 rfl (lv_at hl 0 rfl) ?_
  refine lv_iload_n hx hb d_L_save_3 rfl (lv_at hl 1 rfl) ?_
  have hFc := lW_free hD hS hA
  refine xt_cont (xt_runV (As := [.int tt]) (rest := [.int (nI 0), .ref o]) ⟨hx, hb, hml, hown, hB⟩ (m_D_save l dC dI k b _ d tt htr hok) (cwV 1 hB (BIG_V bw_238 bw_239 bw_240 bw_16 bw_241) rfl rfl rfl ⟨rfl, by decide, by decide, by decide +kernel⟩ ⟨Nat.le_of_ble_eq_true rfl, Nat.le_of_ble_eq_true rfl⟩) (dPc_pre _ (lW_P hP) hK (lW_Dd hD) hTh (xs_keep.of hS hst)) rfl rfl hl.1 rfl (lv_room (Nat.le_of_ble_eq_true rfl)) d_L_save_4 ⟨Nat.le_of_ble_eq_true rfl, Nat.le_of_ble_eq_true rfl⟩) hS (fun q _ h => hFc q h) hFc ?_ (fun X x8 u t H1 locs ht hvm hw hB1 hI hx1 hz1 hk1 hS => ?_)
  · intro v8 u t H1 locs ht hvm hw hB1 hz1 hk1 hS
    obtain ⟨x9, rfl, hw⟩ := hw
    have hP : va_P (dC, dI) vwC (lW k b o u g) H1 := lW_join hP hD (by rw [← ht]; exact hB1) hk1
    have hD : va_D A (lW k b o u g) := lW_D hDk
    clear hFc hB1 hk1 hz1 ht hvm
    generalize H1 = H at hP hS ⊢
    refine W.eq (g2 := F0 m 7 ls [.int x9, .int (nI 0), .ref o]) (rfl) ?_
    refine lv_i2l hx hb d_L_save_7 rfl ?_
    refine va_last hx hb hK hP hD hS 0 1 rfl rfl (pk_in 0 1 (by omega)) d_L_save_8 (fun H locs hP hD hS => ?_)
    rw [cl_nI (by omega)] at hP
    have hP : va_P (dC, dI) vwC (lW k b o u (vp_updL g 0 x9.toInt64)) H := hP
    refine lv_goto hx hb d_L_save_9 rfl ?_
    refine lv_iconst (v := 0) hx hb d_L_save_21 (by decide) ?_
    exact mq_up (Nat.le_of_ble_eq_true rfl) (Nat.le_of_ble_eq_true rfl) (W.iret (v := 0) hx hb hr (fun t ht hW => ⟨⟨0, (u, vp_updL g 0 x9.toInt64), rfl, ⟨by rw [← hw]; rfl, by rw [← hw], fun _ => by rw [← hw]; exact updL_0 g _⟩, by show va_P (dC, dI) vwC _ t.heap; rw [ht]; exact hP⟩, hS.F ht⟩) hS.2.2 d_L_save_22)
  · skip
    have hP : va_P (dC, dI) vwC (lW k b o u g) H1 := lW_join hP hD (by rw [← ht]; exact hB1) hk1
    have hD : va_D A (lW k b o u g) := lW_D hDk
    obtain ⟨cell, hcell, hcls, hvn⟩ := hI
    rw [ht] at hcell
    rw [hvm.findClass] at hcls
    rcases xb_save hw with rfl | rfl | rfl
    · skip
      refine xc_catch hown hcell hvn hcls x1 qA [x2, x3] [] hL1 (tab_cov hv1 (Nat.le_of_ble_eq_true rfl) (Nat.le_of_ble_eq_true rfl)) (by rw [hc1]; decide) (by rw [hc1]; exact hB _ bw_70) (hCt.y 0 rfl) (fun _ h => absurd h List.not_mem_nil) ?_
      rw [hp1]
      refine lv_astore_n hx hb d_L_save_12 rfl hl (by decide) rfl (fun ls hl => ?_)
      have hl : lv_has ls 4 [(3, .ref x8), (0, .ref (b 0)), (1, .int tt), (2, .ref o)] := hl
      refine lv_iconst (v := 1) hx hb d_L_save_13 (by decide) ?_
      exact mq_up (Nat.le_of_ble_eq_true rfl) (Nat.le_of_ble_eq_true rfl) (W.iret (v := 1) hx hb hr (fun t ht hW => ⟨⟨1, (u, g), rfl, ⟨(by rw [← hw]; exact (by decide +kernel : (1 : Int32) = cdOf [qA, qS, qU] (some qA))), by rw [← hw], by rw [← hw]; intro h; cases h⟩, by show va_P (dC, dI) vwC _ t.heap; rw [ht]; exact hP⟩, hS.F ht⟩) hS.2.2 d_L_save_14)
    · skip
      refine xc_catch hown hcell hvn hcls x2 qS [x3] [(x1, qA)] hL1 (tab_cov hv2 (Nat.le_of_ble_eq_true rfl) (Nat.le_of_ble_eq_true rfl)) (by rw [hc2]; decide) (by rw [hc2]; exact hB _ bw_71) (hCt.y 1 rfl) (List.forall_mem_cons.mpr ⟨⟨tab_cov hv1 (Nat.le_of_ble_eq_true rfl) (Nat.le_of_ble_eq_true rfl), by rw [hc1]; decide, by rw [hc1]; exact hB _ bw_70, hCt.n 3 rfl⟩, (fun _ h => absurd h List.not_mem_nil)⟩) ?_
      rw [hp2]
      refine lv_astore_n hx hb d_L_save_15 rfl hl (by decide) rfl (fun ls hl => ?_)
      have hl : lv_has ls 4 [(3, .ref x8), (0, .ref (b 0)), (1, .int tt), (2, .ref o)] := hl
      refine lv_iconst (v := 2) hx hb d_L_save_16 (by decide) ?_
      exact mq_up (Nat.le_of_ble_eq_true rfl) (Nat.le_of_ble_eq_true rfl) (W.iret (v := 2) hx hb hr (fun t ht hW => ⟨⟨2, (u, g), rfl, ⟨(by rw [← hw]; exact (by decide +kernel : (2 : Int32) = cdOf [qA, qS, qU] (some qS))), by rw [← hw], by rw [← hw]; intro h; cases h⟩, by show va_P (dC, dI) vwC _ t.heap; rw [ht]; exact hP⟩, hS.F ht⟩) hS.2.2 d_L_save_17)
    · skip
      refine xc_catch hown hcell hvn hcls x3 qU [] [(x1, qA), (x2, qS)] hL1 (tab_cov hv3 (Nat.le_of_ble_eq_true rfl) (Nat.le_of_ble_eq_true rfl)) (by rw [hc3]; decide) (by rw [hc3]; exact hB _ bw_153) (hCt.y 3 rfl) (List.forall_mem_cons.mpr ⟨⟨tab_cov hv1 (Nat.le_of_ble_eq_true rfl) (Nat.le_of_ble_eq_true rfl), by rw [hc1]; decide, by rw [hc1]; exact hB _ bw_70, hCt.n 9 rfl⟩, (List.forall_mem_cons.mpr ⟨⟨tab_cov hv2 (Nat.le_of_ble_eq_true rfl) (Nat.le_of_ble_eq_true rfl), by rw [hc2]; decide, by rw [hc2]; exact hB _ bw_71, hCt.n 10 rfl⟩, (fun _ h => absurd h List.not_mem_nil)⟩)⟩) ?_
      rw [hp3]
      refine lv_astore_n hx hb d_L_save_18 rfl hl (by decide) rfl (fun ls hl => ?_)
      have hl : lv_has ls 4 [(3, .ref x8), (0, .ref (b 0)), (1, .int tt), (2, .ref o)] := hl
      refine lv_iconst (v := 3) hx hb d_L_save_19 (by decide) ?_
      exact mq_up (Nat.le_of_ble_eq_true rfl) (Nat.le_of_ble_eq_true rfl) (W.iret (v := 3) hx hb hr (fun t ht hW => ⟨⟨3, (u, g), rfl, ⟨(by rw [← hw]; exact (by decide +kernel : (3 : Int32) = cdOf [qA, qS, qU] (some qU))), by rw [← hw], by rw [← hw]; intro h; cases h⟩, by show va_P (dC, dI) vwC _ t.heap; rw [ht]; exact hP⟩, hS.F ht⟩) hS.2.2 d_L_save_20)
set_option maxHeartbeats 4000000 in
set_option maxRecDepth 100000 in
theorem m_L_back (l : Launch) (dC : Nat → ClassId) (dI : Nat → Nat → Nat) (k : Nat → ClassId) (b : Nat → Nat) (o sz : Nat) (d : xDS) (g : Nat → Int64) (tt : Int32) (htr : l.stackTraces = false) (hok : dOk d) : Met l y_L_back w_L_back (rmx 10 5 30 171) (lPc dC dI k b o sz d g [.ref (b 0), .int tt]) (va_Qi (fun r (u : xDS × (Nat → Int64)) => r = cdOf [qA, qS, qU] (yBack d tt).1 ∧ u.1 = (yBack d tt).2) (lB dC dI k b o) (va_A (lW k b o d g) sz)) 5 30 (va_A (lW k b o d g) sz) := by
  refine va_MetW (cc := c_L_back) (maxL := 3) (ret := some .int) (hh := [(0, 5, 8, 13), (0, 5, 11, 15), (0, 5, 14, 23)]) (by decide) rfl ?_
  intro p e s m args below meth c s₁ B hml hv
  obtain ⟨rfl, hsz, hP, hK, hD0, hTh, hCt⟩ := hv
  have hx := B.exec
  have hb := B.bytes
  have hr := B.returns
  have hts := atoms_spec (ws := w_L_back) B.pre
  have hB : ∀ w ∈ BIG, w.before _ s = true := fun w h => hts w (List.mem_cons_of_mem _ h)
  have hown : s.vm.findClass R_L = some m.cls := findClass_of_methodNamed B.named
  have hlocks := B.notSynchronized
  have htb : c.exceptionTable.toList.map (fun h => (h.startPc, h.endPc, h.handlerPc, h.catchType)) = [(0, 5, 8, 13), (0, 5, 11, 15), (0, 5, 14, 23)] := by
    obtain ⟨m9, meth9, c9, e1, e2, e3, -, -, e4, -⟩ := Cond.codeWith_spec (hts _ List.mem_cons_self)
    cases (B.named.symm.trans e1)
    cases (B.method.symm.trans e2)
    cases ((Stand.of_body B).code.symm.trans e3)
    exact e4
  obtain ⟨x1, L1, hL1, hv1, hp1, hc1, htb⟩ := tab_cons htb
  obtain ⟨x2, L2, hL2, hv2, hp2, hc2, htb⟩ := tab_cons htb
  obtain ⟨x3, L3, hL3, hv3, hp3, hc3, htb⟩ := tab_cons htb
  have hLn := tab_nil htb
  subst hLn
  subst hL3
  subst hL2
  have hl := lv_entry ([.ref (b 0), .int tt]) (n := 3) (Nat.le_of_ble_eq_true rfl)
  rw [lg_entry_eq]
  generalize (lg_sl ([.ref (b 0), .int tt]) ++ List.replicate (3 - (lg_sl ([.ref (b 0), .int tt])).length) Slot.unset).toArray = ls at hl ⊢
  have hl : lv_has ls 3 [(0, .ref (b 0)), (1, .int tt)] := hl
  subst hsz
  have hst := xs_world hP
  have hD := hD0.self (sz := s.heap.size)
  generalize hAe : va_A (lW k b o d g) s.heap.size = A at hD hst ⊢
  have hA : ∀ q : Nat, s.heap.size ≤ q → A q := fun q h => by rw [← hAe]; exact Or.inr h
  have hS : va_S A s.heap s.heap [] := va_S.rf
  have hDk := hD
  refine lv_aload_n hx hb d_L_back_0 rfl (lv_at hl 0 rfl) ?_
  refine lv_iload_n hx hb d_L_back_1 rfl (lv_at hl 1 rfl) ?_
  have hFc := lW_free hD hS hA
  refine xt_cont (xt_runV (As := [.int tt]) (rest := []) ⟨hx, hb, hml, hown, hB⟩ (m_D_back l dC dI k b _ d tt htr hok) (cwV 1 hB (BIG_V bw_253 bw_254 bw_255 bw_16 bw_256) rfl rfl rfl ⟨rfl, by decide, by decide, by decide +kernel⟩ ⟨Nat.le_of_ble_eq_true rfl, Nat.le_of_ble_eq_true rfl⟩) (dPc_pre _ (lW_P hP) hK (lW_Dd hD) hTh (xs_keep.of hS hst)) rfl rfl hl.1 rfl (lv_room (Nat.le_of_ble_eq_true rfl)) d_L_back_2 ⟨Nat.le_of_ble_eq_true rfl, Nat.le_of_ble_eq_true rfl⟩) hS (fun q _ h => hFc q h) hFc ?_ (fun X x8 u t H1 locs ht hvm hw hB1 hI hx1 hz1 hk1 hS => ?_)
  · intro v8 u t H1 locs ht hvm hw hB1 hz1 hk1 hS
    obtain ⟨rfl, hw⟩ := hw
    have hP : va_P (dC, dI) vwC (lW k b o u g) H1 := lW_join hP hD (by rw [← ht]; exact hB1) hk1
    have hD : va_D A (lW k b o u g) := lW_D hDk
    clear hFc hB1 hk1 hz1 ht hvm
    generalize H1 = H at hP hS ⊢
    refine W.eq (g2 := F0 m 5 ls []) (rfl) ?_
    refine lv_goto hx hb d_L_back_5 rfl ?_
    refine lv_iconst (v := 0) hx hb d_L_back_17 (by decide) ?_
    exact mq_up (Nat.le_of_ble_eq_true rfl) (Nat.le_of_ble_eq_true rfl) (W.iret (v := 0) hx hb hr (fun t ht hW => ⟨⟨0, (u, g), rfl, ⟨by rw [← hw]; rfl, by rw [← hw]⟩, by show va_P (dC, dI) vwC _ t.heap; rw [ht]; exact hP⟩, hS.F ht⟩) hS.2.2 d_L_back_18)
  · skip
    have hP : va_P (dC, dI) vwC (lW k b o u g) H1 := lW_join hP hD (by rw [← ht]; exact hB1) hk1
    have hD : va_D A (lW k b o u g) := lW_D hDk
    obtain ⟨cell, hcell, hcls, hvn⟩ := hI
    rw [ht] at hcell
    rw [hvm.findClass] at hcls
    rcases xb_back hw with rfl | rfl | rfl
    · skip
      refine xc_catch hown hcell hvn hcls x1 qA [x2, x3] [] hL1 (tab_cov hv1 (Nat.le_of_ble_eq_true rfl) (Nat.le_of_ble_eq_true rfl)) (by rw [hc1]; decide) (by rw [hc1]; exact hB _ bw_70) (hCt.y 0 rfl) (fun _ h => absurd h List.not_mem_nil) ?_
      rw [hp1]
      refine lv_astore_n hx hb d_L_back_8 rfl hl (by decide) rfl (fun ls hl => ?_)
      have hl : lv_has ls 3 [(2, .ref x8), (0, .ref (b 0)), (1, .int tt)] := hl
      refine lv_iconst (v := 1) hx hb d_L_back_9 (by decide) ?_
      exact mq_up (Nat.le_of_ble_eq_true rfl) (Nat.le_of_ble_eq_true rfl) (W.iret (v := 1) hx hb hr (fun t ht hW => ⟨⟨1, (u, g), rfl, ⟨(by rw [← hw]; exact (by decide +kernel : (1 : Int32) = cdOf [qA, qS, qU] (some qA))), by rw [← hw]⟩, by show va_P (dC, dI) vwC _ t.heap; rw [ht]; exact hP⟩, hS.F ht⟩) hS.2.2 d_L_back_10)
    · skip
      refine xc_catch hown hcell hvn hcls x2 qS [x3] [(x1, qA)] hL1 (tab_cov hv2 (Nat.le_of_ble_eq_true rfl) (Nat.le_of_ble_eq_true rfl)) (by rw [hc2]; decide) (by rw [hc2]; exact hB _ bw_71) (hCt.y 1 rfl) (List.forall_mem_cons.mpr ⟨⟨tab_cov hv1 (Nat.le_of_ble_eq_true rfl) (Nat.le_of_ble_eq_true rfl), by rw [hc1]; decide, by rw [hc1]; exact hB _ bw_70, hCt.n 3 rfl⟩, (fun _ h => absurd h List.not_mem_nil)⟩) ?_
      rw [hp2]
      refine lv_astore_n hx hb d_L_back_11 rfl hl (by decide) rfl (fun ls hl => ?_)
      have hl : lv_has ls 3 [(2, .ref x8), (0, .ref (b 0)), (1, .int tt)] := hl
      refine lv_iconst (v := 2) hx hb d_L_back_12 (by decide) ?_
      exact mq_up (Nat.le_of_ble_eq_true rfl) (Nat.le_of_ble_eq_true rfl) (W.iret (v := 2) hx hb hr (fun t ht hW => ⟨⟨2, (u, g), rfl, ⟨(by rw [← hw]; exact (by decide +kernel : (2 : Int32) = cdOf [qA, qS, qU] (some qS))), by rw [← hw]⟩, by show va_P (dC, dI) vwC _ t.heap; rw [ht]; exact hP⟩, hS.F ht⟩) hS.2.2 d_L_back_13)
    · skip
      refine xc_catch hown hcell hvn hcls x3 qU [] [(x1, qA), (x2, qS)] hL1 (tab_cov hv3 (Nat.le_of_ble_eq_true rfl) (Nat.le_of_ble_eq_true rfl)) (by rw [hc3]; decide) (by rw [hc3]; exact hB _ bw_153) (hCt.y 3 rfl) (List.forall_mem_cons.mpr ⟨⟨tab_cov hv1 (Nat.le_of_ble_eq_true rfl) (Nat.le_of_ble_eq_true rfl), by rw [hc1]; decide, by rw [hc1]; exact hB _ bw_70, hCt.n 9 rfl⟩, (List.forall_mem_cons.mpr ⟨⟨tab_cov hv2 (Nat.le_of_ble_eq_true rfl) (Nat.le_of_ble_eq_true rfl), by rw [hc2]; decide, by rw [hc2]; exact hB _ bw_71, hCt.n 10 rfl⟩, (fun _ h => absurd h List.not_mem_nil)⟩)⟩) ?_
      rw [hp3]
      refine lv_astore_n hx hb d_L_back_14 rfl hl (by decide) rfl (fun ls hl => ?_)
      have hl : lv_has ls 3 [(2, .ref x8), (0, .ref (b 0)), (1, .int tt)] := hl
      refine lv_iconst (v := 3) hx hb d_L_back_15 (by decide) ?_
      exact mq_up (Nat.le_of_ble_eq_true rfl) (Nat.le_of_ble_eq_true rfl) (W.iret (v := 3) hx hb hr (fun t ht hW => ⟨⟨3, (u, g), rfl, ⟨(by rw [← hw]; exact (by decide +kernel : (3 : Int32) = cdOf [qA, qS, qU] (some qU))), by rw [← hw]⟩, by show va_P (dC, dI) vwC _ t.heap; rw [ht]; exact hP⟩, hS.F ht⟩) hS.2.2 d_L_back_16)
set_option maxHeartbeats 4000000 in
set_option maxRecDepth 100000 in
theorem m_L_keep (l : Launch) (dC : Nat → ClassId) (dI : Nat → Nat → Nat) (k : Nat → ClassId) (b : Nat → Nat) (o sz : Nat) (d : xDS) (g : Nat → Int64) (tt : Int32) (htr : l.stackTraces = false) (hok : dOk d) : Met l y_L_keep w_L_keep (rmx 10 5 30 171) (lPc dC dI k b o sz d g [.ref (b 0), .int tt]) (va_Qi (fun r (u : xDS × (Nat → Int64)) => r = cdOf [qA, qS, qU] (yKeep d tt).1 ∧ u.1 = (yKeep d tt).2) (lB dC dI k b o) (va_A (lW k b o d g) sz)) 5 30 (va_A (lW k b o d g) sz) := by
  refine va_MetW (cc := c_L_keep) (maxL := 3) (ret := some .int) (hh := [(0, 5, 8, 13), (0, 5, 11, 15), (0, 5, 14, 23)]) (by decide) rfl ?_
  intro p e s m args below meth c s₁ B hml hv
  obtain ⟨rfl, hsz, hP, hK, hD0, hTh, hCt⟩ := hv
  have hx := B.exec
  have hb := B.bytes
  have hr := B.returns
  have hts := atoms_spec (ws := w_L_keep) B.pre
  have hB : ∀ w ∈ BIG, w.before _ s = true := fun w h => hts w (List.mem_cons_of_mem _ h)
  have hown : s.vm.findClass R_L = some m.cls := findClass_of_methodNamed B.named
  have hlocks := B.notSynchronized
  have htb : c.exceptionTable.toList.map (fun h => (h.startPc, h.endPc, h.handlerPc, h.catchType)) = [(0, 5, 8, 13), (0, 5, 11, 15), (0, 5, 14, 23)] := by
    obtain ⟨m9, meth9, c9, e1, e2, e3, -, -, e4, -⟩ := Cond.codeWith_spec (hts _ List.mem_cons_self)
    cases (B.named.symm.trans e1)
    cases (B.method.symm.trans e2)
    cases ((Stand.of_body B).code.symm.trans e3)
    exact e4
  obtain ⟨x1, L1, hL1, hv1, hp1, hc1, htb⟩ := tab_cons htb
  obtain ⟨x2, L2, hL2, hv2, hp2, hc2, htb⟩ := tab_cons htb
  obtain ⟨x3, L3, hL3, hv3, hp3, hc3, htb⟩ := tab_cons htb
  have hLn := tab_nil htb
  subst hLn
  subst hL3
  subst hL2
  have hl := lv_entry ([.ref (b 0), .int tt]) (n := 3) (Nat.le_of_ble_eq_true rfl)
  rw [lg_entry_eq]
  generalize (lg_sl ([.ref (b 0), .int tt]) ++ List.replicate (3 - (lg_sl ([.ref (b 0), .int tt])).length) Slot.unset).toArray = ls at hl ⊢
  have hl : lv_has ls 3 [(0, .ref (b 0)), (1, .int tt)] := hl
  subst hsz
  have hst := xs_world hP
  have hD := hD0.self (sz := s.heap.size)
  generalize hAe : va_A (lW k b o d g) s.heap.size = A at hD hst ⊢
  have hA : ∀ q : Nat, s.heap.size ≤ q → A q := fun q h => by rw [← hAe]; exact Or.inr h
  have hS : va_S A s.heap s.heap [] := va_S.rf
  have hDk := hD
  refine lv_aload_n hx hb d_L_keep_0 rfl (lv_at hl 0 rfl) ?_
  refine lv_iload_n hx hb d_L_keep_1 rfl (lv_at hl 1 rfl) ?_
  have hFc := lW_free hD hS hA
  refine xt_cont (xt_runV (As := [.int tt]) (rest := []) ⟨hx, hb, hml, hown, hB⟩ (m_D_keep l dC dI k b _ d tt htr hok) (cwV 1 hB (BIG_V bw_267 bw_268 bw_269 bw_16 bw_270) rfl rfl rfl ⟨rfl, by decide, by decide, by decide +kernel⟩ ⟨Nat.le_of_ble_eq_true rfl, Nat.le_of_ble_eq_true rfl⟩) (dPc_pre _ (lW_P hP) hK (lW_Dd hD) hTh (xs_keep.of hS hst)) rfl rfl hl.1 rfl (lv_room (Nat.le_of_ble_eq_true rfl)) d_L_keep_2 ⟨Nat.le_of_ble_eq_true rfl, Nat.le_of_ble_eq_true rfl⟩) hS (fun q _ h => hFc q h) hFc ?_ (fun X x8 u t H1 locs ht hvm hw hB1 hI hx1 hz1 hk1 hS => ?_)
  · intro v8 u t H1 locs ht hvm hw hB1 hz1 hk1 hS
    obtain ⟨rfl, hw⟩ := hw
    have hP : va_P (dC, dI) vwC (lW k b o u g) H1 := lW_join hP hD (by rw [← ht]; exact hB1) hk1
    have hD : va_D A (lW k b o u g) := lW_D hDk
    clear hFc hB1 hk1 hz1 ht hvm
    generalize H1 = H at hP hS ⊢
    refine W.eq (g2 := F0 m 5 ls []) (rfl) ?_
    refine lv_goto hx hb d_L_keep_5 rfl ?_
    refine lv_iconst (v := 0) hx hb d_L_keep_17 (by decide) ?_
    exact mq_up (Nat.le_of_ble_eq_true rfl) (Nat.le_of_ble_eq_true rfl) (W.iret (v := 0) hx hb hr (fun t ht hW => ⟨⟨0, (u, g), rfl, ⟨by rw [← hw]; rfl, by rw [← hw]⟩, by show va_P (dC, dI) vwC _ t.heap; rw [ht]; exact hP⟩, hS.F ht⟩) hS.2.2 d_L_keep_18)
  · skip
    have hP : va_P (dC, dI) vwC (lW k b o u g) H1 := lW_join hP hD (by rw [← ht]; exact hB1) hk1
    have hD : va_D A (lW k b o u g) := lW_D hDk
    obtain ⟨cell, hcell, hcls, hvn⟩ := hI
    rw [ht] at hcell
    rw [hvm.findClass] at hcls
    rcases xb_keep hw with rfl | rfl | rfl
    · skip
      refine xc_catch hown hcell hvn hcls x1 qA [x2, x3] [] hL1 (tab_cov hv1 (Nat.le_of_ble_eq_true rfl) (Nat.le_of_ble_eq_true rfl)) (by rw [hc1]; decide) (by rw [hc1]; exact hB _ bw_70) (hCt.y 0 rfl) (fun _ h => absurd h List.not_mem_nil) ?_
      rw [hp1]
      refine lv_astore_n hx hb d_L_keep_8 rfl hl (by decide) rfl (fun ls hl => ?_)
      have hl : lv_has ls 3 [(2, .ref x8), (0, .ref (b 0)), (1, .int tt)] := hl
      refine lv_iconst (v := 1) hx hb d_L_keep_9 (by decide) ?_
      exact mq_up (Nat.le_of_ble_eq_true rfl) (Nat.le_of_ble_eq_true rfl) (W.iret (v := 1) hx hb hr (fun t ht hW => ⟨⟨1, (u, g), rfl, ⟨(by rw [← hw]; exact (by decide +kernel : (1 : Int32) = cdOf [qA, qS, qU] (some qA))), by rw [← hw]⟩, by show va_P (dC, dI) vwC _ t.heap; rw [ht]; exact hP⟩, hS.F ht⟩) hS.2.2 d_L_keep_10)
    · skip
      refine xc_catch hown hcell hvn hcls x2 qS [x3] [(x1, qA)] hL1 (tab_cov hv2 (Nat.le_of_ble_eq_true rfl) (Nat.le_of_ble_eq_true rfl)) (by rw [hc2]; decide) (by rw [hc2]; exact hB _ bw_71) (hCt.y 1 rfl) (List.forall_mem_cons.mpr ⟨⟨tab_cov hv1 (Nat.le_of_ble_eq_true rfl) (Nat.le_of_ble_eq_true rfl), by rw [hc1]; decide, by rw [hc1]; exact hB _ bw_70, hCt.n 3 rfl⟩, (fun _ h => absurd h List.not_mem_nil)⟩) ?_
      rw [hp2]
      refine lv_astore_n hx hb d_L_keep_11 rfl hl (by decide) rfl (fun ls hl => ?_)
      have hl : lv_has ls 3 [(2, .ref x8), (0, .ref (b 0)), (1, .int tt)] := hl
      refine lv_iconst (v := 2) hx hb d_L_keep_12 (by decide) ?_
      exact mq_up (Nat.le_of_ble_eq_true rfl) (Nat.le_of_ble_eq_true rfl) (W.iret (v := 2) hx hb hr (fun t ht hW => ⟨⟨2, (u, g), rfl, ⟨(by rw [← hw]; exact (by decide +kernel : (2 : Int32) = cdOf [qA, qS, qU] (some qS))), by rw [← hw]⟩, by show va_P (dC, dI) vwC _ t.heap; rw [ht]; exact hP⟩, hS.F ht⟩) hS.2.2 d_L_keep_13)
    · skip
      refine xc_catch hown hcell hvn hcls x3 qU [] [(x1, qA), (x2, qS)] hL1 (tab_cov hv3 (Nat.le_of_ble_eq_true rfl) (Nat.le_of_ble_eq_true rfl)) (by rw [hc3]; decide) (by rw [hc3]; exact hB _ bw_153) (hCt.y 3 rfl) (List.forall_mem_cons.mpr ⟨⟨tab_cov hv1 (Nat.le_of_ble_eq_true rfl) (Nat.le_of_ble_eq_true rfl), by rw [hc1]; decide, by rw [hc1]; exact hB _ bw_70, hCt.n 9 rfl⟩, (List.forall_mem_cons.mpr ⟨⟨tab_cov hv2 (Nat.le_of_ble_eq_true rfl) (Nat.le_of_ble_eq_true rfl), by rw [hc2]; decide, by rw [hc2]; exact hB _ bw_71, hCt.n 10 rfl⟩, (fun _ h => absurd h List.not_mem_nil)⟩)⟩) ?_
      rw [hp3]
      refine lv_astore_n hx hb d_L_keep_14 rfl hl (by decide) rfl (fun ls hl => ?_)
      have hl : lv_has ls 3 [(2, .ref x8), (0, .ref (b 0)), (1, .int tt)] := hl
      refine lv_iconst (v := 3) hx hb d_L_keep_15 (by decide) ?_
      exact mq_up (Nat.le_of_ble_eq_true rfl) (Nat.le_of_ble_eq_true rfl) (W.iret (v := 3) hx hb hr (fun t ht hW => ⟨⟨3, (u, g), rfl, ⟨(by rw [← hw]; exact (by decide +kernel : (3 : Int32) = cdOf [qA, qS, qU] (some qU))), by rw [← hw]⟩, by show va_P (dC, dI) vwC _ t.heap; rw [ht]; exact hP⟩, hS.F ht⟩) hS.2.2 d_L_keep_16)
set_option maxHeartbeats 4000000 in
set_option maxRecDepth 100000 in
theorem m_L_done (l : Launch) (dC : Nat → ClassId) (dI : Nat → Nat → Nat) (k : Nat → ClassId) (b : Nat → Nat) (o sz : Nat) (d : xDS) (g : Nat → Int64) (tt : Int32) (htr : l.stackTraces = false) (hok : dOk d) : Met l y_L_done w_L_done (rmx 10 5 30 171) (lPc dC dI k b o sz d g [.ref (b 0), .int tt, .ref o]) (va_Qi (fun r (u : xDS × (Nat → Int64)) => r = cdOf [qA, qS] (yDone d tt).1.1 ∧ u.1 = (yDone d tt).2 ∧ ((yDone d tt).1.1 = none → u.2 0 = (if (yDone d tt).1.2 = true then 1 else 0))) (lB dC dI k b o) (va_A (lW k b o d g) sz)) 5 30 (va_A (lW k b o d g) sz) := by
  refine va_MetW (cc := c_L_done) (maxL := 4) (ret := some .int) (hh := [(0, 16, 19, 13), (0, 16, 22, 15)]) (by decide) rfl ?_
  intro p e s m args below meth c s₁ B hml hv
  obtain ⟨rfl, hsz, hP, hK, hD0, hTh, hCt⟩ := hv
  have hx := B.exec
  have hb := B.bytes
  have hr := B.returns
  have hts := atoms_spec (ws := w_L_done) B.pre
  have hB : ∀ w ∈ BIG, w.before _ s = true := fun w h => hts w (List.mem_cons_of_mem _ h)
  have hown : s.vm.findClass R_L = some m.cls := findClass_of_methodNamed B.named
  have hlocks := B.notSynchronized
  have htb : c.exceptionTable.toList.map (fun h => (h.startPc, h.endPc, h.handlerPc, h.catchType)) = [(0, 16, 19, 13), (0, 16, 22, 15)] := by
    obtain ⟨m9, meth9, c9, e1, e2, e3, -, -, e4, -⟩ := Cond.codeWith_spec (hts _ List.mem_cons_self)
    cases (B.named.symm.trans e1)
    cases (B.method.symm.trans e2)
    cases ((Stand.of_body B).code.symm.trans e3)
    exact e4
  obtain ⟨x1, L1, hL1, hv1, hp1, hc1, htb⟩ := tab_cons htb
  obtain ⟨x2, L2, hL2, hv2, hp2, hc2, htb⟩ := tab_cons htb
  have hLn := tab_nil htb
  subst hLn
  subst hL2
  have hl := lv_entry ([.ref (b 0), .int tt, .ref o]) (n := 4) (Nat.le_of_ble_eq_true rfl)
  rw [lg_entry_eq]
  generalize (lg_sl ([.ref (b 0), .int tt, .ref o]) ++ List.replicate (4 - (lg_sl ([.ref (b 0), .int tt, .ref o])).length) Slot.unset).toArray = ls at hl ⊢
  have hl : lv_has ls 4 [(0, .ref (b 0)), (1, .int tt), (2, .ref o)] := hl
  subst hsz
  have hst := xs_world hP
  have hD := hD0.self (sz := s.heap.size)
  generalize hAe : va_A (lW k b o d g) s.heap.size = A at hD hst ⊢
  have hA : ∀ q : Nat, s.heap.size ≤ q → A q := fun q h => by rw [← hAe]; exact Or.inr h
  have hS : va_S A s.heap s.heap [] := va_S.rf
  have hDk := hD
  refine lv_aload_n hx hb d_L_done_0 rfl (lv_at hl 2 rfl) ?_
  refine lv_iconst (v := nI 0) hx hb d_L_done_1 (by decide) ?_
  refine lv_aload_n hx hb d_L_done_2 rfl (lv_at hl 0 rfl) ?_
  refine lv_iload_n hx hb d_L_done_3 rfl (lv_at hl 1 rfl) ?_
  have hFc := lW_free hD hS hA
  refine xt_cont (xt_runV (As := [.int tt]) (rest := [.int (nI 0), .ref o]) ⟨hx, hb, hml, hown, hB⟩ (m_D_done l dC dI k b _ d tt htr hok) (cwV 1 hB (BIG_V bw_279 bw_280 bw_281 bw_16 bw_282) rfl rfl rfl ⟨rfl, by decide, by decide, by decide +kernel⟩ ⟨Nat.le_of_ble_eq_true rfl, Nat.le_of_ble_eq_true rfl⟩) (dPc_pre _ (lW_P hP) hK (lW_Dd hD) hTh (xs_keep.of hS hst)) rfl rfl hl.1 rfl (lv_room (Nat.le_of_ble_eq_true rfl)) d_L_done_4 ⟨Nat.le_of_ble_eq_true rfl, Nat.le_of_ble_eq_true rfl⟩) hS (fun q _ h => hFc q h) hFc ?_ (fun X x8 u t H1 locs ht hvm hw hB1 hI hx1 hz1 hk1 hS => ?_)
  · intro v8 u t H1 locs ht hvm hw hB1 hz1 hk1 hS
    obtain ⟨b8, rfl, hw⟩ := hw
    have hP : va_P (dC, dI) vwC (lW k b o u g) H1 := lW_join hP hD (by rw [← ht]; exact hB1) hk1
    have hD : va_D A (lW k b o u g) := lW_D hDk
    clear hFc hB1 hk1 hz1 ht hvm
    generalize H1 = H at hP hS ⊢
    refine W.eq (g2 := F0 m 7 ls [.int (bI b8), .int (nI 0), .ref o]) (rfl) ?_
    cases b8 with
    | true =>
      refine lv_if_eq hx hb d_L_done_7 rfl (fun h9 => absurd h9 (by decide)) (fun _ => ?_)
      refine lv_lconst (v := 1) hx hb d_L_done_10 (by decide) ?_
      refine lv_goto hx hb d_L_done_11 rfl ?_
      refine va_last hx hb hK hP hD hS 0 1 rfl rfl (pk_in 0 1 (by omega)) d_L_done_15 (fun H locs hP hD hS => ?_)
      rw [cl_nI (by omega)] at hP
      have hP : va_P (dC, dI) vwC (lW k b o u (vp_updL g 0 1)) H := hP
      refine lv_goto hx hb d_L_done_16 rfl ?_
      refine lv_iconst (v := 0) hx hb d_L_done_25 (by decide) ?_
      exact mq_up (Nat.le_of_ble_eq_true rfl) (Nat.le_of_ble_eq_true rfl) (W.iret (v := 0) hx hb hr (fun t ht hW => ⟨⟨0, (u, vp_updL g 0 1), rfl, ⟨by rw [← hw]; rfl, by rw [← hw], fun _ => by rw [← hw]; exact updL_0 g _⟩, by show va_P (dC, dI) vwC _ t.heap; rw [ht]; exact hP⟩, hS.F ht⟩) hS.2.2 d_L_done_26)
    | false =>
      refine lv_if_eq hx hb d_L_done_7 rfl (fun _ => ?_) (fun h9 => absurd (by decide) h9)
      refine lv_lconst (v := 0) hx hb d_L_done_14 (by decide) ?_
      refine va_last hx hb hK hP hD hS 0 1 rfl rfl (pk_in 0 1 (by omega)) d_L_done_15 (fun H locs hP hD hS => ?_)
      rw [cl_nI (by omega)] at hP
      have hP : va_P (dC, dI) vwC (lW k b o u (vp_updL g 0 0)) H := hP
      refine lv_goto hx hb d_L_done_16 rfl ?_
      refine lv_iconst (v := 0) hx hb d_L_done_25 (by decide) ?_
      exact mq_up (Nat.le_of_ble_eq_true rfl) (Nat.le_of_ble_eq_true rfl) (W.iret (v := 0) hx hb hr (fun t ht hW => ⟨⟨0, (u, vp_updL g 0 0), rfl, ⟨by rw [← hw]; rfl, by rw [← hw], fun _ => by rw [← hw]; exact updL_0 g _⟩, by show va_P (dC, dI) vwC _ t.heap; rw [ht]; exact hP⟩, hS.F ht⟩) hS.2.2 d_L_done_26)
  · skip
    have hP : va_P (dC, dI) vwC (lW k b o u g) H1 := lW_join hP hD (by rw [← ht]; exact hB1) hk1
    have hD : va_D A (lW k b o u g) := lW_D hDk
    obtain ⟨cell, hcell, hcls, hvn⟩ := hI
    rw [ht] at hcell
    rw [hvm.findClass] at hcls
    rcases xb_done hw with rfl | rfl
    · skip
      refine xc_catch hown hcell hvn hcls x1 qA [x2] [] hL1 (tab_cov hv1 (Nat.le_of_ble_eq_true rfl) (Nat.le_of_ble_eq_true rfl)) (by rw [hc1]; decide) (by rw [hc1]; exact hB _ bw_70) (hCt.y 0 rfl) (fun _ h => absurd h List.not_mem_nil) ?_
      rw [hp1]
      refine lv_astore_n hx hb d_L_done_19 rfl hl (by decide) rfl (fun ls hl => ?_)
      have hl : lv_has ls 4 [(3, .ref x8), (0, .ref (b 0)), (1, .int tt), (2, .ref o)] := hl
      refine lv_iconst (v := 1) hx hb d_L_done_20 (by decide) ?_
      exact mq_up (Nat.le_of_ble_eq_true rfl) (Nat.le_of_ble_eq_true rfl) (W.iret (v := 1) hx hb hr (fun t ht hW => ⟨⟨1, (u, g), rfl, ⟨(by rw [← hw]; exact (by decide +kernel : (1 : Int32) = cdOf [qA, qS] (some qA))), by rw [← hw], by rw [← hw]; intro h; cases h⟩, by show va_P (dC, dI) vwC _ t.heap; rw [ht]; exact hP⟩, hS.F ht⟩) hS.2.2 d_L_done_21)
    · skip
      refine xc_catch hown hcell hvn hcls x2 qS [] [(x1, qA)] hL1 (tab_cov hv2 (Nat.le_of_ble_eq_true rfl) (Nat.le_of_ble_eq_true rfl)) (by rw [hc2]; decide) (by rw [hc2]; exact hB _ bw_71) (hCt.y 1 rfl) (List.forall_mem_cons.mpr ⟨⟨tab_cov hv1 (Nat.le_of_ble_eq_true rfl) (Nat.le_of_ble_eq_true rfl), by rw [hc1]; decide, by rw [hc1]; exact hB _ bw_70, hCt.n 3 rfl⟩, (fun _ h => absurd h List.not_mem_nil)⟩) ?_
      rw [hp2]
      refine lv_astore_n hx hb d_L_done_22 rfl hl (by decide) rfl (fun ls hl => ?_)
      have hl : lv_has ls 4 [(3, .ref x8), (0, .ref (b 0)), (1, .int tt), (2, .ref o)] := hl
      refine lv_iconst (v := 2) hx hb d_L_done_23 (by decide) ?_
      exact mq_up (Nat.le_of_ble_eq_true rfl) (Nat.le_of_ble_eq_true rfl) (W.iret (v := 2) hx hb hr (fun t ht hW => ⟨⟨2, (u, g), rfl, ⟨(by rw [← hw]; exact (by decide +kernel : (2 : Int32) = cdOf [qA, qS] (some qS))), by rw [← hw], by rw [← hw]; intro h; cases h⟩, by show va_P (dC, dI) vwC _ t.heap; rw [ht]; exact hP⟩, hS.F ht⟩) hS.2.2 d_L_done_24)
set_option maxHeartbeats 4000000 in
set_option maxRecDepth 100000 in
theorem m_L_leave (l : Launch) (dC : Nat → ClassId) (dI : Nat → Nat → Nat) (k : Nat → ClassId) (b : Nat → Nat) (o sz : Nat) (d : xDS) (g : Nat → Int64) (tt : Int32) (htr : l.stackTraces = false) : Met l y_L_leave w_L_leave (rmx 10 5 30 171) (lPc dC dI k b o sz d g [.ref (b 0), .int tt]) (va_Qi (fun r (u : xDS × (Nat → Int64)) => r = cdOf [qA, qS] (yLeave d tt).1 ∧ u.1 = (yLeave d tt).2) (lB dC dI k b o) (va_A (lW k b o d g) sz)) 5 30 (va_A (lW k b o d g) sz) := by
  refine va_MetW (cc := c_L_leave) (maxL := 3) (ret := some .int) (hh := [(0, 5, 8, 13), (0, 5, 11, 15)]) (by decide) rfl ?_
  intro p e s m args below meth c s₁ B hml hv
  obtain ⟨rfl, hsz, hP, hK, hD0, hTh, hCt⟩ := hv
  have hx := B.exec
  have hb := B.bytes
  have hr := B.returns
  have hts := atoms_spec (ws := w_L_leave) B.pre
  have hB : ∀ w ∈ BIG, w.before _ s = true := fun w h => hts w (List.mem_cons_of_mem _ h)
  have hown : s.vm.findClass R_L = some m.cls := findClass_of_methodNamed B.named
  have hlocks := B.notSynchronized
  have htb : c.exceptionTable.toList.map (fun h => (h.startPc, h.endPc, h.handlerPc, h.catchType)) = [(0, 5, 8, 13), (0, 5, 11, 15)] := by
    obtain ⟨m9, meth9, c9, e1, e2, e3, -, -, e4, -⟩ := Cond.codeWith_spec (hts _ List.mem_cons_self)
    cases (B.named.symm.trans e1)
    cases (B.method.symm.trans e2)
    cases ((Stand.of_body B).code.symm.trans e3)
    exact e4
  obtain ⟨x1, L1, hL1, hv1, hp1, hc1, htb⟩ := tab_cons htb
  obtain ⟨x2, L2, hL2, hv2, hp2, hc2, htb⟩ := tab_cons htb
  have hLn := tab_nil htb
  subst hLn
  subst hL2
  have hl := lv_entry ([.ref (b 0), .int tt]) (n := 3) (Nat.le_of_ble_eq_true rfl)
  rw [lg_entry_eq]
  generalize (lg_sl ([.ref (b 0), .int tt]) ++ List.replicate (3 - (lg_sl ([.ref (b 0), .int tt])).length) Slot.unset).toArray = ls at hl ⊢
  have hl : lv_has ls 3 [(0, .ref (b 0)), (1, .int tt)] := hl
  subst hsz
  have hst := xs_world hP
  have hD := hD0.self (sz := s.heap.size)
  generalize hAe : va_A (lW k b o d g) s.heap.size = A at hD hst ⊢
  have hA : ∀ q : Nat, s.heap.size ≤ q → A q := fun q h => by rw [← hAe]; exact Or.inr h
  have hS : va_S A s.heap s.heap [] := va_S.rf
  have hDk := hD
  refine lv_aload_n hx hb d_L_leave_0 rfl (lv_at hl 0 rfl) ?_
  refine lv_iload_n hx hb d_L_leave_1 rfl (lv_at hl 1 rfl) ?_
  have hFc := lW_free hD hS hA
  refine xt_cont (xt_runV (As := [.int tt]) (rest := []) ⟨hx, hb, hml, hown, hB⟩ (m_D_leave l dC dI k b _ d tt htr) (cwV 1 hB (BIG_V bw_293 bw_294 bw_295 bw_16 bw_296) rfl rfl rfl ⟨rfl, by decide, by decide, by decide +kernel⟩ ⟨Nat.le_of_ble_eq_true rfl, Nat.le_of_ble_eq_true rfl⟩) (dPc_pre _ (lW_P hP) hK (lW_Dd hD) hTh (xs_keep.of hS hst)) rfl rfl hl.1 rfl (lv_room (Nat.le_of_ble_eq_true rfl)) d_L_leave_2 ⟨Nat.le_of_ble_eq_true rfl, Nat.le_of_ble_eq_true rfl⟩) hS (fun q _ h => hFc q h) hFc ?_ (fun X x8 u t H1 locs ht hvm hw hB1 hI hx1 hz1 hk1 hS => ?_)
  · intro v8 u t H1 locs ht hvm hw hB1 hz1 hk1 hS
    obtain ⟨rfl, hw⟩ := hw
    have hP : va_P (dC, dI) vwC (lW k b o u g) H1 := lW_join hP hD (by rw [← ht]; exact hB1) hk1
    have hD : va_D A (lW k b o u g) := lW_D hDk
    clear hFc hB1 hk1 hz1 ht hvm
    generalize H1 = H at hP hS ⊢
    refine W.eq (g2 := F0 m 5 ls []) (rfl) ?_
    refine lv_goto hx hb d_L_leave_5 rfl ?_
    refine lv_iconst (v := 0) hx hb d_L_leave_14 (by decide) ?_
    exact mq_up (Nat.le_of_ble_eq_true rfl) (Nat.le_of_ble_eq_true rfl) (W.iret (v := 0) hx hb hr (fun t ht hW => ⟨⟨0, (u, g), rfl, ⟨by rw [← hw]; rfl, by rw [← hw]⟩, by show va_P (dC, dI) vwC _ t.heap; rw [ht]; exact hP⟩, hS.F ht⟩) hS.2.2 d_L_leave_15)
  · skip
    have hP : va_P (dC, dI) vwC (lW k b o u g) H1 := lW_join hP hD (by rw [← ht]; exact hB1) hk1
    have hD : va_D A (lW k b o u g) := lW_D hDk
    obtain ⟨cell, hcell, hcls, hvn⟩ := hI
    rw [ht] at hcell
    rw [hvm.findClass] at hcls
    rcases xb_leave hw with rfl | rfl
    · skip
      refine xc_catch hown hcell hvn hcls x1 qA [x2] [] hL1 (tab_cov hv1 (Nat.le_of_ble_eq_true rfl) (Nat.le_of_ble_eq_true rfl)) (by rw [hc1]; decide) (by rw [hc1]; exact hB _ bw_70) (hCt.y 0 rfl) (fun _ h => absurd h List.not_mem_nil) ?_
      rw [hp1]
      refine lv_astore_n hx hb d_L_leave_8 rfl hl (by decide) rfl (fun ls hl => ?_)
      have hl : lv_has ls 3 [(2, .ref x8), (0, .ref (b 0)), (1, .int tt)] := hl
      refine lv_iconst (v := 1) hx hb d_L_leave_9 (by decide) ?_
      exact mq_up (Nat.le_of_ble_eq_true rfl) (Nat.le_of_ble_eq_true rfl) (W.iret (v := 1) hx hb hr (fun t ht hW => ⟨⟨1, (u, g), rfl, ⟨(by rw [← hw]; exact (by decide +kernel : (1 : Int32) = cdOf [qA, qS] (some qA))), by rw [← hw]⟩, by show va_P (dC, dI) vwC _ t.heap; rw [ht]; exact hP⟩, hS.F ht⟩) hS.2.2 d_L_leave_10)
    · skip
      refine xc_catch hown hcell hvn hcls x2 qS [] [(x1, qA)] hL1 (tab_cov hv2 (Nat.le_of_ble_eq_true rfl) (Nat.le_of_ble_eq_true rfl)) (by rw [hc2]; decide) (by rw [hc2]; exact hB _ bw_71) (hCt.y 1 rfl) (List.forall_mem_cons.mpr ⟨⟨tab_cov hv1 (Nat.le_of_ble_eq_true rfl) (Nat.le_of_ble_eq_true rfl), by rw [hc1]; decide, by rw [hc1]; exact hB _ bw_70, hCt.n 3 rfl⟩, (fun _ h => absurd h List.not_mem_nil)⟩) ?_
      rw [hp2]
      refine lv_astore_n hx hb d_L_leave_11 rfl hl (by decide) rfl (fun ls hl => ?_)
      have hl : lv_has ls 3 [(2, .ref x8), (0, .ref (b 0)), (1, .int tt)] := hl
      refine lv_iconst (v := 2) hx hb d_L_leave_12 (by decide) ?_
      exact mq_up (Nat.le_of_ble_eq_true rfl) (Nat.le_of_ble_eq_true rfl) (W.iret (v := 2) hx hb hr (fun t ht hW => ⟨⟨2, (u, g), rfl, ⟨(by rw [← hw]; exact (by decide +kernel : (2 : Int32) = cdOf [qA, qS] (some qS))), by rw [← hw]⟩, by show va_P (dC, dI) vwC _ t.heap; rw [ht]; exact hP⟩, hS.F ht⟩) hS.2.2 d_L_leave_13)
set_option maxHeartbeats 4000000 in
set_option maxRecDepth 100000 in
theorem m_L_set (l : Launch) (dC : Nat → ClassId) (dI : Nat → Nat → Nat) (k : Nat → ClassId) (b : Nat → Nat) (o sz : Nat) (d : xDS) (g : Nat → Int64) (kk : Int32) (x : Int64) (htr : l.stackTraces = false) : Met l y_L_set w_L_set (rmx 10 5 30 171) (lPc dC dI k b o sz d g [.ref (b 0), .int kk, .long x]) (va_Qi (fun r (u : xDS × (Nat → Int64)) => r = cdOf [qB] (yPut d kk x).1 ∧ u.1 = (yPut d kk x).2) (lB dC dI k b o) (va_A (lW k b o d g) sz)) 5 30 (va_A (lW k b o d g) sz) := by
  refine va_MetW (cc := c_L_set) (maxL := 5) (ret := some .int) (hh := [(0, 6, 9, 21)]) (by decide) rfl ?_
  intro p e s m args below meth c s₁ B hml hv
  obtain ⟨rfl, hsz, hP, hK, hD0, hTh, hCt⟩ := hv
  have hx := B.exec
  have hb := B.bytes
  have hr := B.returns
  have hts := atoms_spec (ws := w_L_set) B.pre
  have hB : ∀ w ∈ BIG, w.before _ s = true := fun w h => hts w (List.mem_cons_of_mem _ h)
  have hown : s.vm.findClass R_L = some m.cls := findClass_of_methodNamed B.named
  have hlocks := B.notSynchronized
  have htb : c.exceptionTable.toList.map (fun h => (h.startPc, h.endPc, h.handlerPc, h.catchType)) = [(0, 6, 9, 21)] := by
    obtain ⟨m9, meth9, c9, e1, e2, e3, -, -, e4, -⟩ := Cond.codeWith_spec (hts _ List.mem_cons_self)
    cases (B.named.symm.trans e1)
    cases (B.method.symm.trans e2)
    cases ((Stand.of_body B).code.symm.trans e3)
    exact e4
  obtain ⟨x1, L1, hL1, hv1, hp1, hc1, htb⟩ := tab_cons htb
  have hLn := tab_nil htb
  subst hLn
  have hl := lv_entry ([.ref (b 0), .int kk, .long x]) (n := 5) (Nat.le_of_ble_eq_true rfl)
  rw [lg_entry_eq]
  generalize (lg_sl ([.ref (b 0), .int kk, .long x]) ++ List.replicate (5 - (lg_sl ([.ref (b 0), .int kk, .long x])).length) Slot.unset).toArray = ls at hl ⊢
  have hl : lv_has ls 5 [(0, .ref (b 0)), (1, .int kk), (2, .long x)] := hl
  subst hsz
  have hst := xs_world hP
  have hD := hD0.self (sz := s.heap.size)
  generalize hAe : va_A (lW k b o d g) s.heap.size = A at hD hst ⊢
  have hA : ∀ q : Nat, s.heap.size ≤ q → A q := fun q h => by rw [← hAe]; exact Or.inr h
  have hS : va_S A s.heap s.heap [] := va_S.rf
  have hDk := hD
  refine lv_aload_n hx hb d_L_set_0 rfl (lv_at hl 0 rfl) ?_
  refine lv_iload_n hx hb d_L_set_1 rfl (lv_at hl 1 rfl) ?_
  refine lv_lload_n hx hb d_L_set_2 rfl (lv_at hl 2 rfl) ?_
  have hFc := lW_free hD hS hA
  refine xt_cont (xt_runV (As := [.int kk, .long x]) (rest := []) ⟨hx, hb, hml, hown, hB⟩ (m_D_set l dC dI k b _ d kk x htr) (cwV 2 hB (BIG_V bw_300 bw_301 bw_302 bw_16 bw_303) rfl rfl rfl ⟨rfl, by decide, by decide, by decide +kernel⟩ ⟨Nat.le_of_ble_eq_true rfl, Nat.le_of_ble_eq_true rfl⟩) (dPc_pre _ (lW_P hP) hK (lW_Dd hD) hTh (xs_keep.of hS hst)) rfl rfl hl.1 rfl (lv_room (Nat.le_of_ble_eq_true rfl)) d_L_set_3 ⟨Nat.le_of_ble_eq_true rfl, Nat.le_of_ble_eq_true rfl⟩) hS (fun q _ h => hFc q h) hFc ?_ (fun X x8 u t H1 locs ht hvm hw hB1 hI hx1 hz1 hk1 hS => ?_)
  · intro v8 u t H1 locs ht hvm hw hB1 hz1 hk1 hS
    obtain ⟨rfl, hw⟩ := hw
    have hP : va_P (dC, dI) vwC (lW k b o u g) H1 := lW_join hP hD (by rw [← ht]; exact hB1) hk1
    have hD : va_D A (lW k b o u g) := lW_D hDk
    clear hFc hB1 hk1 hz1 ht hvm
    generalize H1 = H at hP hS ⊢
    refine W.eq (g2 := F0 m 6 ls []) (rfl) ?_
    refine lv_goto hx hb d_L_set_6 rfl ?_
    refine lv_iconst (v := 0) hx hb d_L_set_13 (by decide) ?_
    exact mq_up (Nat.le_of_ble_eq_true rfl) (Nat.le_of_ble_eq_true rfl) (W.iret (v := 0) hx hb hr (fun t ht hW => ⟨⟨0, (u, g), rfl, ⟨by rw [← hw]; rfl, by rw [← hw]⟩, by show va_P (dC, dI) vwC _ t.heap; rw [ht]; exact hP⟩, hS.F ht⟩) hS.2.2 d_L_set_14)
  · skip
    have hP : va_P (dC, dI) vwC (lW k b o u g) H1 := lW_join hP hD (by rw [← ht]; exact hB1) hk1
    have hD : va_D A (lW k b o u g) := lW_D hDk
    obtain ⟨cell, hcell, hcls, hvn⟩ := hI
    rw [ht] at hcell
    rw [hvm.findClass] at hcls
    obtain rfl := xb_set hw
    refine xc_catch hown hcell hvn hcls x1 qB [] [] hL1 (tab_cov hv1 (Nat.le_of_ble_eq_true rfl) (Nat.le_of_ble_eq_true rfl)) (by rw [hc1]; decide) (by rw [hc1]; exact hB _ bw_152) (hCt.y 2 rfl) (fun _ h => absurd h List.not_mem_nil) ?_
    rw [hp1]
    refine lv_astore hx hb d_L_set_9 hl (by decide) rfl (fun ls hl => ?_)
    have hl : lv_has ls 5 [(4, .ref x8), (0, .ref (b 0)), (1, .int kk), (2, .long x)] := hl
    refine lv_iconst (v := 1) hx hb d_L_set_11 (by decide) ?_
    exact mq_up (Nat.le_of_ble_eq_true rfl) (Nat.le_of_ble_eq_true rfl) (W.iret (v := 1) hx hb hr (fun t ht hW => ⟨⟨1, (u, g), rfl, ⟨(by rw [← hw]; exact (by decide +kernel : (1 : Int32) = cdOf [qB] (some qB))), by rw [← hw]⟩, by show va_P (dC, dI) vwC _ t.heap; rw [ht]; exact hP⟩, hS.F ht⟩) hS.2.2 d_L_set_12)
set_option maxHeartbeats 4000000 in
set_option maxRecDepth 100000 in
theorem m_L_cell (l : Launch) (dC : Nat → ClassId) (dI : Nat → Nat → Nat) (k : Nat → ClassId) (b : Nat → Nat) (o sz : Nat) (d : xDS) (g : Nat → Int64) (kk : Int32) (htr : l.stackTraces = false) : Met l y_L_cell w_L_cell (rmx 10 5 30 171) (lPc dC dI k b o sz d g [.ref (b 0), .int kk, .ref o]) (va_Qi (fun r (u : xDS × (Nat → Int64)) => r = cdOf [qB] (yCell d kk).1 ∧ u.1 = d ∧ ((yCell d kk).1 = none → u.2 0 = (yCell d kk).2)) (lB dC dI k b o) (va_A (lW k b o d g) sz)) 5 30 (va_A (lW k b o d g) sz) := by
  refine va_MetW (cc := c_L_cell) (maxL := 4) (ret := some .int) (hh := [(0, 8, 11, 21)]) (by decide) rfl ?_
  intro p e s m args below meth c s₁ B hml hv
  obtain ⟨rfl, hsz, hP, hK, hD0, hTh, hCt⟩ := hv
  have hx := B.exec
  have hb := B.bytes
  have hr := B.returns
  have hts := atoms_spec (ws := w_L_cell) B.pre
  have hB : ∀ w ∈ BIG, w.before _ s = true := fun w h => hts w (List.mem_cons_of_mem _ h)
  have hown : s.vm.findClass R_L = some m.cls := findClass_of_methodNamed B.named
  have hlocks := B.notSynchronized
  have htb : c.exceptionTable.toList.map (fun h => (h.startPc, h.endPc, h.handlerPc, h.catchType)) = [(0, 8, 11, 21)] := by
    obtain ⟨m9, meth9, c9, e1, e2, e3, -, -, e4, -⟩ := Cond.codeWith_spec (hts _ List.mem_cons_self)
    cases (B.named.symm.trans e1)
    cases (B.method.symm.trans e2)
    cases ((Stand.of_body B).code.symm.trans e3)
    exact e4
  obtain ⟨x1, L1, hL1, hv1, hp1, hc1, htb⟩ := tab_cons htb
  have hLn := tab_nil htb
  subst hLn
  have hl := lv_entry ([.ref (b 0), .int kk, .ref o]) (n := 4) (Nat.le_of_ble_eq_true rfl)
  rw [lg_entry_eq]
  generalize (lg_sl ([.ref (b 0), .int kk, .ref o]) ++ List.replicate (4 - (lg_sl ([.ref (b 0), .int kk, .ref o])).length) Slot.unset).toArray = ls at hl ⊢
  have hl : lv_has ls 4 [(0, .ref (b 0)), (1, .int kk), (2, .ref o)] := hl
  subst hsz
  have hst := xs_world hP
  have hD := hD0.self (sz := s.heap.size)
  generalize hAe : va_A (lW k b o d g) s.heap.size = A at hD hst ⊢
  have hA : ∀ q : Nat, s.heap.size ≤ q → A q := fun q h => by rw [← hAe]; exact Or.inr h
  have hS : va_S A s.heap s.heap [] := va_S.rf
  have hDk := hD
  refine lv_aload_n hx hb d_L_cell_0 rfl (lv_at hl 2 rfl) ?_
  refine lv_iconst (v := nI 0) hx hb d_L_cell_1 (by decide) ?_
  refine lv_aload_n hx hb d_L_cell_2 rfl (lv_at hl 0 rfl) ?_
  refine lv_iload_n hx hb d_L_cell_3 rfl (lv_at hl 1 rfl) ?_
  have hFc := lW_free hD hS hA
  refine xt_cont (xt_runV (As := [.int kk]) (rest := [.int (nI 0), .ref o]) ⟨hx, hb, hml, hown, hB⟩ (m_D_cell l dC dI k b _ d kk htr) (cwV 1 hB (BIG_V bw_307 bw_308 bw_309 bw_16 bw_310) rfl rfl rfl ⟨rfl, by decide, by decide, by decide +kernel⟩ ⟨Nat.le_of_ble_eq_true rfl, Nat.le_of_ble_eq_true rfl⟩) (dPc_pre _ (lW_P hP) hK (lW_Dd hD) hTh (xs_keep.of hS hst)) rfl rfl hl.1 rfl (lv_room (Nat.le_of_ble_eq_true rfl)) d_L_cell_4 ⟨Nat.le_of_ble_eq_true rfl, Nat.le_of_ble_eq_true rfl⟩) hS (fun q _ h => hFc q h) hFc ?_ (fun X x8 u t H1 locs ht hvm hw hB1 hI hx1 hz1 hk1 hS => ?_)
  · intro v8 u t H1 locs ht hvm hw hB1 hz1 hk1 hS
    obtain ⟨x9, rfl, hw, hu⟩ := hw
    rw [hu] at hB1
    have hP : va_P (dC, dI) vwC (lW k b o d g) H1 := lW_join hP hD (by rw [← ht]; exact hB1) hk1
    have hD : va_D A (lW k b o d g) := lW_D hDk
    clear hFc hB1 hk1 hz1 ht hvm
    generalize H1 = H at hP hS ⊢
    refine W.eq (g2 := F0 m 7 ls [.long x9, .int (nI 0), .ref o]) (rfl) ?_
    refine va_last hx hb hK hP hD hS 0 1 rfl rfl (pk_in 0 1 (by omega)) d_L_cell_7 (fun H locs hP hD hS => ?_)
    rw [cl_nI (by omega)] at hP
    have hP : va_P (dC, dI) vwC (lW k b o d (vp_updL g 0 x9)) H := hP
    refine lv_goto hx hb d_L_cell_8 rfl ?_
    refine lv_iconst (v := 0) hx hb d_L_cell_14 (by decide) ?_
    exact mq_up (Nat.le_of_ble_eq_true rfl) (Nat.le_of_ble_eq_true rfl) (W.iret (v := 0) hx hb hr (fun t ht hW => ⟨⟨0, (d, vp_updL g 0 x9), rfl, ⟨by rw [← hw]; rfl, rfl, fun _ => by rw [← hw]; exact updL_0 g _⟩, by show va_P (dC, dI) vwC _ t.heap; rw [ht]; exact hP⟩, hS.F ht⟩) hS.2.2 d_L_cell_15)
  · skip
    obtain ⟨hw, hu⟩ := hw
    rw [hu] at hB1
    have hP : va_P (dC, dI) vwC (lW k b o d g) H1 := lW_join hP hD (by rw [← ht]; exact hB1) hk1
    have hD : va_D A (lW k b o d g) := lW_D hDk
    obtain ⟨cell, hcell, hcls, hvn⟩ := hI
    rw [ht] at hcell
    rw [hvm.findClass] at hcls
    obtain rfl := xb_cell hw
    refine xc_catch hown hcell hvn hcls x1 qB [] [] hL1 (tab_cov hv1 (Nat.le_of_ble_eq_true rfl) (Nat.le_of_ble_eq_true rfl)) (by rw [hc1]; decide) (by rw [hc1]; exact hB _ bw_152) (hCt.y 2 rfl) (fun _ h => absurd h List.not_mem_nil) ?_
    rw [hp1]
    refine lv_astore_n hx hb d_L_cell_11 rfl hl (by decide) rfl (fun ls hl => ?_)
    have hl : lv_has ls 4 [(3, .ref x8), (0, .ref (b 0)), (1, .int kk), (2, .ref o)] := hl
    refine lv_iconst (v := 1) hx hb d_L_cell_12 (by decide) ?_
    exact mq_up (Nat.le_of_ble_eq_true rfl) (Nat.le_of_ble_eq_true rfl) (W.iret (v := 1) hx hb hr (fun t ht hW => ⟨⟨1, (d, g), rfl, ⟨(by rw [← hw]; exact (by decide +kernel : (1 : Int32) = cdOf [qB] (some qB))), rfl, by rw [← hw]; intro h; cases h⟩, by show va_P (dC, dI) vwC _ t.heap; rw [ht]; exact hP⟩, hS.F ht⟩) hS.2.2 d_L_cell_13)
set_option maxHeartbeats 4000000 in
set_option maxRecDepth 100000 in
theorem m_L_changed (l : Launch) (dC : Nat → ClassId) (dI : Nat → Nat → Nat) (k : Nat → ClassId) (b : Nat → Nat) (o sz : Nat) (d : xDS) (g : Nat → Int64) (kk : Int32) (htr : l.stackTraces = false) : Met l y_L_changed w_L_changed (rmx 10 5 30 171) (lPc dC dI k b o sz d g [.ref (b 0), .int kk, .ref o]) (va_Qi (fun r (u : xDS × (Nat → Int64)) => r = cdOf [qB] (yChd d kk).1 ∧ u.1 = d ∧ ((yChd d kk).1 = none → u.2 0 = (yChd d kk).2.toInt64)) (lB dC dI k b o) (va_A (lW k b o d g) sz)) 5 30 (va_A (lW k b o d g) sz) := by
  refine va_MetW (cc := c_L_changed) (maxL := 4) (ret := some .int) (hh := [(0, 9, 12, 21)]) (by decide) rfl ?_
  intro p e s m args below meth c s₁ B hml hv
  obtain ⟨rfl, hsz, hP, hK, hD0, hTh, hCt⟩ := hv
  have hx := B.exec
  have hb := B.bytes
  have hr := B.returns
  have hts := atoms_spec (ws := w_L_changed) B.pre
  have hB : ∀ w ∈ BIG, w.before _ s = true := fun w h => hts w (List.mem_cons_of_mem _ h)
  have hown : s.vm.findClass R_L = some m.cls := findClass_of_methodNamed B.named
  have hlocks := B.notSynchronized
  have htb : c.exceptionTable.toList.map (fun h => (h.startPc, h.endPc, h.handlerPc, h.catchType)) = [(0, 9, 12, 21)] := by
    obtain ⟨m9, meth9, c9, e1, e2, e3, -, -, e4, -⟩ := Cond.codeWith_spec (hts _ List.mem_cons_self)
    cases (B.named.symm.trans e1)
    cases (B.method.symm.trans e2)
    cases ((Stand.of_body B).code.symm.trans e3)
    exact e4
  obtain ⟨x1, L1, hL1, hv1, hp1, hc1, htb⟩ := tab_cons htb
  have hLn := tab_nil htb
  subst hLn
  have hl := lv_entry ([.ref (b 0), .int kk, .ref o]) (n := 4) (Nat.le_of_ble_eq_true rfl)
  rw [lg_entry_eq]
  generalize (lg_sl ([.ref (b 0), .int kk, .ref o]) ++ List.replicate (4 - (lg_sl ([.ref (b 0), .int kk, .ref o])).length) Slot.unset).toArray = ls at hl ⊢
  have hl : lv_has ls 4 [(0, .ref (b 0)), (1, .int kk), (2, .ref o)] := hl
  subst hsz
  have hst := xs_world hP
  have hD := hD0.self (sz := s.heap.size)
  generalize hAe : va_A (lW k b o d g) s.heap.size = A at hD hst ⊢
  have hA : ∀ q : Nat, s.heap.size ≤ q → A q := fun q h => by rw [← hAe]; exact Or.inr h
  have hS : va_S A s.heap s.heap [] := va_S.rf
  have hDk := hD
  refine lv_aload_n hx hb d_L_changed_0 rfl (lv_at hl 2 rfl) ?_
  refine lv_iconst (v := nI 0) hx hb d_L_changed_1 (by decide) ?_
  refine lv_aload_n hx hb d_L_changed_2 rfl (lv_at hl 0 rfl) ?_
  refine lv_iload_n hx hb d_L_changed_3 rfl (lv_at hl 1 rfl) ?_
  have hFc := lW_free hD hS hA
  refine xt_cont (xt_runV (As := [.int kk]) (rest := [.int (nI 0), .ref o]) ⟨hx, hb, hml, hown, hB⟩ (m_D_changed l dC dI k b _ d kk htr) (cwV 1 hB (BIG_V bw_314 bw_315 bw_316 bw_16 bw_317) rfl rfl rfl ⟨rfl, by decide, by decide, by decide +kernel⟩ ⟨Nat.le_of_ble_eq_true rfl, Nat.le_of_ble_eq_true rfl⟩) (dPc_pre _ (lW_P hP) hK (lW_Dd hD) hTh (xs_keep.of hS hst)) rfl rfl hl.1 rfl (lv_room (Nat.le_of_ble_eq_true rfl)) d_L_changed_4 ⟨Nat.le_of_ble_eq_true rfl, Nat.le_of_ble_eq_true rfl⟩) hS (fun q _ h => hFc q h) hFc ?_ (fun X x8 u t H1 locs ht hvm hw hB1 hI hx1 hz1 hk1 hS => ?_)
  · intro v8 u t H1 locs ht hvm hw hB1 hz1 hk1 hS
    obtain ⟨x9, rfl, hw, hu⟩ := hw
    rw [hu] at hB1
    have hP : va_P (dC, dI) vwC (lW k b o d g) H1 := lW_join hP hD (by rw [← ht]; exact hB1) hk1
    have hD : va_D A (lW k b o d g) := lW_D hDk
    clear hFc hB1 hk1 hz1 ht hvm
    generalize H1 = H at hP hS ⊢
    refine W.eq (g2 := F0 m 7 ls [.int x9, .int (nI 0), .ref o]) (rfl) ?_
    refine lv_i2l hx hb d_L_changed_7 rfl ?_
    refine va_last hx hb hK hP hD hS 0 1 rfl rfl (pk_in 0 1 (by omega)) d_L_changed_8 (fun H locs hP hD hS => ?_)
    rw [cl_nI (by omega)] at hP
    have hP : va_P (dC, dI) vwC (lW k b o d (vp_updL g 0 x9.toInt64)) H := hP
    refine lv_goto hx hb d_L_changed_9 rfl ?_
    refine lv_iconst (v := 0) hx hb d_L_changed_15 (by decide) ?_
    exact mq_up (Nat.le_of_ble_eq_true rfl) (Nat.le_of_ble_eq_true rfl) (W.iret (v := 0) hx hb hr (fun t ht hW => ⟨⟨0, (d, vp_updL g 0 x9.toInt64), rfl, ⟨by rw [← hw]; rfl, rfl, fun _ => by rw [← hw]; exact updL_0 g _⟩, by show va_P (dC, dI) vwC _ t.heap; rw [ht]; exact hP⟩, hS.F ht⟩) hS.2.2 d_L_changed_16)
  · skip
    obtain ⟨hw, hu⟩ := hw
    rw [hu] at hB1
    have hP : va_P (dC, dI) vwC (lW k b o d g) H1 := lW_join hP hD (by rw [← ht]; exact hB1) hk1
    have hD : va_D A (lW k b o d g) := lW_D hDk
    obtain ⟨cell, hcell, hcls, hvn⟩ := hI
    rw [ht] at hcell
    rw [hvm.findClass] at hcls
    obtain rfl := xb_changed hw
    refine xc_catch hown hcell hvn hcls x1 qB [] [] hL1 (tab_cov hv1 (Nat.le_of_ble_eq_true rfl) (Nat.le_of_ble_eq_true rfl)) (by rw [hc1]; decide) (by rw [hc1]; exact hB _ bw_152) (hCt.y 2 rfl) (fun _ h => absurd h List.not_mem_nil) ?_
    rw [hp1]
    refine lv_astore_n hx hb d_L_changed_12 rfl hl (by decide) rfl (fun ls hl => ?_)
    have hl : lv_has ls 4 [(3, .ref x8), (0, .ref (b 0)), (1, .int kk), (2, .ref o)] := hl
    refine lv_iconst (v := 1) hx hb d_L_changed_13 (by decide) ?_
    exact mq_up (Nat.le_of_ble_eq_true rfl) (Nat.le_of_ble_eq_true rfl) (W.iret (v := 1) hx hb hr (fun t ht hW => ⟨⟨1, (d, g), rfl, ⟨(by rw [← hw]; exact (by decide +kernel : (1 : Int32) = cdOf [qB] (some qB))), rfl, by rw [← hw]; intro h; cases h⟩, by show va_P (dC, dI) vwC _ t.heap; rw [ht]; exact hP⟩, hS.F ht⟩) hS.2.2 d_L_changed_14)
set_option maxHeartbeats 4000000 in
set_option maxRecDepth 100000 in
theorem m_L_count (l : Launch) (dC : Nat → ClassId) (dI : Nat → Nat → Nat) (k : Nat → ClassId) (b : Nat → Nat) (o sz : Nat) (d : xDS) (g : Nat → Int64) (tt : Int32) (ww : Int32) (htr : l.stackTraces = false) (hok : dOk d) : Met l y_L_count w_L_count (rmx 10 5 30 171) (lPc dC dI k b o sz d g [.ref (b 0), .int tt, .int ww, .ref o]) (va_Qi (fun r (u : xDS × (Nat → Int64)) => r = cdOf [qA, qS] (yCount d tt ww).1 ∧ u.1 = d ∧ ((yCount d tt ww).1 = none → u.2 0 = (yCount d tt ww).2.toInt64)) (lB dC dI k b o) (va_A (lW k b o d g) sz)) 5 30 (va_A (lW k b o d g) sz) := by
  refine va_MetW (cc := c_L_count) (maxL := 5) (ret := some .int) (hh := [(0, 10, 13, 13), (0, 10, 17, 15)]) (by decide) rfl ?_
  intro p e s m args below meth c s₁ B hml hv
  obtain ⟨rfl, hsz, hP, hK, hD0, hTh, hCt⟩ := hv
  have hx := B.exec
  have hb := B.bytes
  have hr := B.returns
  have hts := atoms_spec (ws := w_L_count) B.pre
  have hB : ∀ w ∈ BIG, w.before _ s = true := fun w h => hts w (List.mem_cons_of_mem _ h)
  have hown : s.vm.findClass R_L = some m.cls := findClass_of_methodNamed B.named
  have hlocks := B.notSynchronized
  have htb : c.exceptionTable.toList.map (fun h => (h.startPc, h.endPc, h.handlerPc, h.catchType)) = [(0, 10, 13, 13), (0, 10, 17, 15)] := by
    obtain ⟨m9, meth9, c9, e1, e2, e3, -, -, e4, -⟩ := Cond.codeWith_spec (hts _ List.mem_cons_self)
    cases (B.named.symm.trans e1)
    cases (B.method.symm.trans e2)
    cases ((Stand.of_body B).code.symm.trans e3)
    exact e4
  obtain ⟨x1, L1, hL1, hv1, hp1, hc1, htb⟩ := tab_cons htb
  obtain ⟨x2, L2, hL2, hv2, hp2, hc2, htb⟩ := tab_cons htb
  have hLn := tab_nil htb
  subst hLn
  subst hL2
  have hl := lv_entry ([.ref (b 0), .int tt, .int ww, .ref o]) (n := 5) (Nat.le_of_ble_eq_true rfl)
  rw [lg_entry_eq]
  generalize (lg_sl ([.ref (b 0), .int tt, .int ww, .ref o]) ++ List.replicate (5 - (lg_sl ([.ref (b 0), .int tt, .int ww, .ref o])).length) Slot.unset).toArray = ls at hl ⊢
  have hl : lv_has ls 5 [(0, .ref (b 0)), (1, .int tt), (2, .int ww), (3, .ref o)] := hl
  subst hsz
  have hst := xs_world hP
  have hD := hD0.self (sz := s.heap.size)
  generalize hAe : va_A (lW k b o d g) s.heap.size = A at hD hst ⊢
  have hA : ∀ q : Nat, s.heap.size ≤ q → A q := fun q h => by rw [← hAe]; exact Or.inr h
  have hS : va_S A s.heap s.heap [] := va_S.rf
  have hDk := hD
  refine lv_aload_n hx hb d_L_count_0 rfl (lv_at hl 3 rfl) ?_
  refine lv_iconst (v := nI 0) hx hb d_L_count_1 (by decide) ?_
  refine lv_aload_n hx hb d_L_count_2 rfl (lv_at hl 0 rfl) ?_
  refine lv_iload_n hx hb d_L_count_3 rfl (lv_at hl 1 rfl) ?_
  refine lv_iload_n hx hb d_L_count_4 rfl (lv_at hl 2 rfl) ?_
  have hFc := lW_free hD hS hA
  refine xt_cont (xt_runV (As := [.int tt, .int ww]) (rest := [.int (nI 0), .ref o]) ⟨hx, hb, hml, hown, hB⟩ (m_D_count l dC dI k b _ d tt ww htr hok) (cwV 2 hB (BIG_V bw_321 bw_322 bw_323 bw_16 bw_324) rfl rfl rfl ⟨rfl, by decide, by decide, by decide +kernel⟩ ⟨Nat.le_of_ble_eq_true rfl, Nat.le_of_ble_eq_true rfl⟩) (dPc_pre _ (lW_P hP) hK (lW_Dd hD) hTh (xs_keep.of hS hst)) rfl rfl hl.1 rfl (lv_room (Nat.le_of_ble_eq_true rfl)) d_L_count_5 ⟨Nat.le_of_ble_eq_true rfl, Nat.le_of_ble_eq_true rfl⟩) hS (fun q _ h => hFc q h) hFc ?_ (fun X x8 u t H1 locs ht hvm hw hB1 hI hx1 hz1 hk1 hS => ?_)
  · intro v8 u t H1 locs ht hvm hw hB1 hz1 hk1 hS
    obtain ⟨x9, rfl, hw, hu⟩ := hw
    rw [hu] at hB1
    have hP : va_P (dC, dI) vwC (lW k b o d g) H1 := lW_join hP hD (by rw [← ht]; exact hB1) hk1
    have hD : va_D A (lW k b o d g) := lW_D hDk
    clear hFc hB1 hk1 hz1 ht hvm
    generalize H1 = H at hP hS ⊢
    refine W.eq (g2 := F0 m 8 ls [.int x9, .int (nI 0), .ref o]) (rfl) ?_
    refine lv_i2l hx hb d_L_count_8 rfl ?_
    refine va_last hx hb hK hP hD hS 0 1 rfl rfl (pk_in 0 1 (by omega)) d_L_count_9 (fun H locs hP hD hS => ?_)
    rw [cl_nI (by omega)] at hP
    have hP : va_P (dC, dI) vwC (lW k b o d (vp_updL g 0 x9.toInt64)) H := hP
    refine lv_goto hx hb d_L_count_10 rfl ?_
    refine lv_iconst (v := 0) hx hb d_L_count_21 (by decide) ?_
    exact mq_up (Nat.le_of_ble_eq_true rfl) (Nat.le_of_ble_eq_true rfl) (W.iret (v := 0) hx hb hr (fun t ht hW => ⟨⟨0, (d, vp_updL g 0 x9.toInt64), rfl, ⟨by rw [← hw]; rfl, rfl, fun _ => by rw [← hw]; exact updL_0 g _⟩, by show va_P (dC, dI) vwC _ t.heap; rw [ht]; exact hP⟩, hS.F ht⟩) hS.2.2 d_L_count_22)
  · skip
    obtain ⟨hw, hu⟩ := hw
    rw [hu] at hB1
    have hP : va_P (dC, dI) vwC (lW k b o d g) H1 := lW_join hP hD (by rw [← ht]; exact hB1) hk1
    have hD : va_D A (lW k b o d g) := lW_D hDk
    obtain ⟨cell, hcell, hcls, hvn⟩ := hI
    rw [ht] at hcell
    rw [hvm.findClass] at hcls
    rcases xb_count hw with rfl | rfl
    · skip
      refine xc_catch hown hcell hvn hcls x1 qA [x2] [] hL1 (tab_cov hv1 (Nat.le_of_ble_eq_true rfl) (Nat.le_of_ble_eq_true rfl)) (by rw [hc1]; decide) (by rw [hc1]; exact hB _ bw_70) (hCt.y 0 rfl) (fun _ h => absurd h List.not_mem_nil) ?_
      rw [hp1]
      refine lv_astore hx hb d_L_count_13 hl (by decide) rfl (fun ls hl => ?_)
      have hl : lv_has ls 5 [(4, .ref x8), (0, .ref (b 0)), (1, .int tt), (2, .int ww), (3, .ref o)] := hl
      refine lv_iconst (v := 1) hx hb d_L_count_15 (by decide) ?_
      exact mq_up (Nat.le_of_ble_eq_true rfl) (Nat.le_of_ble_eq_true rfl) (W.iret (v := 1) hx hb hr (fun t ht hW => ⟨⟨1, (d, g), rfl, ⟨(by rw [← hw]; exact (by decide +kernel : (1 : Int32) = cdOf [qA, qS] (some qA))), rfl, by rw [← hw]; intro h; cases h⟩, by show va_P (dC, dI) vwC _ t.heap; rw [ht]; exact hP⟩, hS.F ht⟩) hS.2.2 d_L_count_16)
    · skip
      refine xc_catch hown hcell hvn hcls x2 qS [] [(x1, qA)] hL1 (tab_cov hv2 (Nat.le_of_ble_eq_true rfl) (Nat.le_of_ble_eq_true rfl)) (by rw [hc2]; decide) (by rw [hc2]; exact hB _ bw_71) (hCt.y 1 rfl) (List.forall_mem_cons.mpr ⟨⟨tab_cov hv1 (Nat.le_of_ble_eq_true rfl) (Nat.le_of_ble_eq_true rfl), by rw [hc1]; decide, by rw [hc1]; exact hB _ bw_70, hCt.n 3 rfl⟩, (fun _ h => absurd h List.not_mem_nil)⟩) ?_
      rw [hp2]
      refine lv_astore hx hb d_L_count_17 hl (by decide) rfl (fun ls hl => ?_)
      have hl : lv_has ls 5 [(4, .ref x8), (0, .ref (b 0)), (1, .int tt), (2, .int ww), (3, .ref o)] := hl
      refine lv_iconst (v := 2) hx hb d_L_count_19 (by decide) ?_
      exact mq_up (Nat.le_of_ble_eq_true rfl) (Nat.le_of_ble_eq_true rfl) (W.iret (v := 2) hx hb hr (fun t ht hW => ⟨⟨2, (d, g), rfl, ⟨(by rw [← hw]; exact (by decide +kernel : (2 : Int32) = cdOf [qA, qS] (some qS))), rfl, by rw [← hw]; intro h; cases h⟩, by show va_P (dC, dI) vwC _ t.heap; rw [ht]; exact hP⟩, hS.F ht⟩) hS.2.2 d_L_count_20)
set_option maxHeartbeats 4000000 in
set_option maxRecDepth 100000 in
theorem m_L_all (l : Launch) (dC : Nat → ClassId) (dI : Nat → Nat → Nat) (k : Nat → ClassId) (b : Nat → Nat) (o sz : Nat) (d : xDS) (g : Nat → Int64) (ww : Int32) (htr : l.stackTraces = false) : Met l y_L_all w_L_all (rmx 10 5 30 171) (lPc dC dI k b o sz d g [.ref (b 0), .int ww, .ref o]) (va_Qi (fun r (u : xDS × (Nat → Int64)) => r = cdOf [qA] (yAll d ww).1 ∧ u.1 = d ∧ ((yAll d ww).1 = none → u.2 0 = (yAll d ww).2.toInt64)) (lB dC dI k b o) (va_A (lW k b o d g) sz)) 5 30 (va_A (lW k b o d g) sz) := by
  refine va_MetW (cc := c_L_all) (maxL := 4) (ret := some .int) (hh := [(0, 9, 12, 13)]) (by decide) rfl ?_
  intro p e s m args below meth c s₁ B hml hv
  obtain ⟨rfl, hsz, hP, hK, hD0, hTh, hCt⟩ := hv
  have hx := B.exec
  have hb := B.bytes
  have hr := B.returns
  have hts := atoms_spec (ws := w_L_all) B.pre
  have hB : ∀ w ∈ BIG, w.before _ s = true := fun w h => hts w (List.mem_cons_of_mem _ h)
  have hown : s.vm.findClass R_L = some m.cls := findClass_of_methodNamed B.named
  have hlocks := B.notSynchronized
  have htb : c.exceptionTable.toList.map (fun h => (h.startPc, h.endPc, h.handlerPc, h.catchType)) = [(0, 9, 12, 13)] := by
    obtain ⟨m9, meth9, c9, e1, e2, e3, -, -, e4, -⟩ := Cond.codeWith_spec (hts _ List.mem_cons_self)
    cases (B.named.symm.trans e1)
    cases (B.method.symm.trans e2)
    cases ((Stand.of_body B).code.symm.trans e3)
    exact e4
  obtain ⟨x1, L1, hL1, hv1, hp1, hc1, htb⟩ := tab_cons htb
  have hLn := tab_nil htb
  subst hLn
  have hl := lv_entry ([.ref (b 0), .int ww, .ref o]) (n := 4) (Nat.le_of_ble_eq_true rfl)
  rw [lg_entry_eq]
  generalize (lg_sl ([.ref (b 0), .int ww, .ref o]) ++ List.replicate (4 - (lg_sl ([.ref (b 0), .int ww, .ref o])).length) Slot.unset).toArray = ls at hl ⊢
  have hl : lv_has ls 4 [(0, .ref (b 0)), (1, .int ww), (2, .ref o)] := hl
  subst hsz
  have hst := xs_world hP
  have hD := hD0.self (sz := s.heap.size)
  generalize hAe : va_A (lW k b o d g) s.heap.size = A at hD hst ⊢
  have hA : ∀ q : Nat, s.heap.size ≤ q → A q := fun q h => by rw [← hAe]; exact Or.inr h
  have hS : va_S A s.heap s.heap [] := va_S.rf
  have hDk := hD
  refine lv_aload_n hx hb d_L_all_0 rfl (lv_at hl 2 rfl) ?_
  refine lv_iconst (v := nI 0) hx hb d_L_all_1 (by decide) ?_
  refine lv_aload_n hx hb d_L_all_2 rfl (lv_at hl 0 rfl) ?_
  refine lv_iload_n hx hb d_L_all_3 rfl (lv_at hl 1 rfl) ?_
  have hFc := lW_free hD hS hA
  refine xt_cont (xt_runV (As := [.int ww]) (rest := [.int (nI 0), .ref o]) ⟨hx, hb, hml, hown, hB⟩ (m_D_all l dC dI k b _ d ww htr) (cwV 1 hB (BIG_V bw_342 bw_343 bw_344 bw_16 bw_345) rfl rfl rfl ⟨rfl, by decide, by decide, by decide +kernel⟩ ⟨Nat.le_of_ble_eq_true rfl, Nat.le_of_ble_eq_true rfl⟩) (dPc_pre _ (lW_P hP) hK (lW_Dd hD) hTh (xs_keep.of hS hst)) rfl rfl hl.1 rfl (lv_room (Nat.le_of_ble_eq_true rfl)) d_L_all_4 ⟨Nat.le_of_ble_eq_true rfl, Nat.le_of_ble_eq_true rfl⟩) hS (fun q _ h => hFc q h) hFc ?_ (fun X x8 u t H1 locs ht hvm hw hB1 hI hx1 hz1 hk1 hS => ?_)
  · intro v8 u t H1 locs ht hvm hw hB1 hz1 hk1 hS
    obtain ⟨x9, rfl, hw, hu⟩ := hw
    rw [hu] at hB1
    have hP : va_P (dC, dI) vwC (lW k b o d g) H1 := lW_join hP hD (by rw [← ht]; exact hB1) hk1
    have hD : va_D A (lW k b o d g) := lW_D hDk
    clear hFc hB1 hk1 hz1 ht hvm
    generalize H1 = H at hP hS ⊢
    refine W.eq (g2 := F0 m 7 ls [.int x9, .int (nI 0), .ref o]) (rfl) ?_
    refine lv_i2l hx hb d_L_all_7 rfl ?_
    refine va_last hx hb hK hP hD hS 0 1 rfl rfl (pk_in 0 1 (by omega)) d_L_all_8 (fun H locs hP hD hS => ?_)
    rw [cl_nI (by omega)] at hP
    have hP : va_P (dC, dI) vwC (lW k b o d (vp_updL g 0 x9.toInt64)) H := hP
    refine lv_goto hx hb d_L_all_9 rfl ?_
    refine lv_iconst (v := 0) hx hb d_L_all_15 (by decide) ?_
    exact mq_up (Nat.le_of_ble_eq_true rfl) (Nat.le_of_ble_eq_true rfl) (W.iret (v := 0) hx hb hr (fun t ht hW => ⟨⟨0, (d, vp_updL g 0 x9.toInt64), rfl, ⟨by rw [← hw]; rfl, rfl, fun _ => by rw [← hw]; exact updL_0 g _⟩, by show va_P (dC, dI) vwC _ t.heap; rw [ht]; exact hP⟩, hS.F ht⟩) hS.2.2 d_L_all_16)
  · skip
    obtain ⟨hw, hu⟩ := hw
    rw [hu] at hB1
    have hP : va_P (dC, dI) vwC (lW k b o d g) H1 := lW_join hP hD (by rw [← ht]; exact hB1) hk1
    have hD : va_D A (lW k b o d g) := lW_D hDk
    obtain ⟨cell, hcell, hcls, hvn⟩ := hI
    rw [ht] at hcell
    rw [hvm.findClass] at hcls
    obtain rfl := xb_all hw
    refine xc_catch hown hcell hvn hcls x1 qA [] [] hL1 (tab_cov hv1 (Nat.le_of_ble_eq_true rfl) (Nat.le_of_ble_eq_true rfl)) (by rw [hc1]; decide) (by rw [hc1]; exact hB _ bw_70) (hCt.y 0 rfl) (fun _ h => absurd h List.not_mem_nil) ?_
    rw [hp1]
    refine lv_astore_n hx hb d_L_all_12 rfl hl (by decide) rfl (fun ls hl => ?_)
    have hl : lv_has ls 4 [(3, .ref x8), (0, .ref (b 0)), (1, .int ww), (2, .ref o)] := hl
    refine lv_iconst (v := 1) hx hb d_L_all_13 (by decide) ?_
    exact mq_up (Nat.le_of_ble_eq_true rfl) (Nat.le_of_ble_eq_true rfl) (W.iret (v := 1) hx hb hr (fun t ht hW => ⟨⟨1, (d, g), rfl, ⟨(by rw [← hw]; exact (by decide +kernel : (1 : Int32) = cdOf [qA] (some qA))), rfl, by rw [← hw]; intro h; cases h⟩, by show va_P (dC, dI) vwC _ t.heap; rw [ht]; exact hP⟩, hS.F ht⟩) hS.2.2 d_L_all_14)
