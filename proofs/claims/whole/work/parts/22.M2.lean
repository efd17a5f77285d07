/-! The reference: the guards, and the methods without a loop of their own. -/
set_option maxHeartbeats 4000000 in
set_option maxRecDepth 100000 in
theorem m_M_leave (l : Launch) (dC : Nat → ClassId) (dI : Nat → Nat → Nat) (k : Nat → ClassId) (a : Nat → Nat) (sz : Nat) (r : xRS) (tt : Int32) : Met l y_M_leave w_M_leave (rmx 2 0 0 80) (mPc dC dI k a sz r [.ref (a 0), .int tt]) (va_Qv (fun u => u = zLeave r tt) (mB dC dI k a) (va_A (mW k a r) sz)) 0 0 (va_A (mW k a r) sz) := by
  refine Met.ofW (cc := c_M_leave) (maxL := 2) (ret := none) (by decide) rfl ?_
  intro p e s m args below meth c s₁ B hml hv
  obtain ⟨rfl, hsz, hP, hK, hD0⟩ := hv
  have hx := B.exec
  have hb := B.bytes
  have hr := B.returns
  have hts := atoms_spec (ws := w_M_leave) B.pre
  have hB : ∀ w ∈ BIG, w.before _ s = true := fun w h => hts w (List.mem_cons_of_mem _ h)
  have hown : s.vm.findClass R_M = some m.cls := findClass_of_methodNamed B.named
  have hlocks := B.notSynchronized
  have hl := lv_entry ([.ref (a 0), .int tt]) (n := 2) (Nat.le_of_ble_eq_true rfl)
  rw [lg_entry_eq]
  generalize (lg_sl ([.ref (a 0), .int tt]) ++ List.replicate (2 - (lg_sl ([.ref (a 0), .int tt])).length) Slot.unset).toArray = ls at hl ⊢
  have hl : lv_has ls 2 [(0, .ref (a 0)), (1, .int tt)] := hl
  subst hsz
  have hD := hD0.self (sz := s.heap.size)
  generalize hAe : va_A (mW k a r) s.heap.size = A at hD ⊢
  have hA : ∀ q : Nat, s.heap.size ≤ q → A q := fun q h => by rw [← hAe]; exact Or.inr h
  have hS : va_S A s.heap s.heap [] := va_S.rf
  have hDk := hD
  cases hq : ix 8 tt with
  | none =>
    refine lv_aload_n hx hb d_M_leave_0 rfl (lv_at hl 0 rfl) ?_
    refine lv_iconst (v := 0) hx hb d_M_leave_1 (by decide) ?_
    refine va_put (D := (dC, dI)) (ci := 2) (v := .int 0) (ty := .int) (C := R_M) (T := F_M) (N := 11) hx hb hB in_M tf_M ty_M nm_M hown hK hP hD hS 0 rfl rfl 0 (by decide) (hB _ bw_355) (fun _ h9 => h9) rfl (by decide +kernel) rfl rfl (Nat.le_of_ble_eq_true rfl) d_M_leave_2 (fun H locs hP hD hS => ?_)
    have hP : va_P (dC, dI) vwC (mW k a (0, zC r, zW r, zG r, zP r, zS r, zH r, zR r, zO r, zD r, zL r)) H := hP
    have hD : va_D A (mW k a (0, zC r, zW r, zG r, zP r, zS r, zH r, zR r, zO r, zD r, zL r)) := hD
    refine lv_aload_n hx hb d_M_leave_5 rfl (lv_at hl 0 rfl) ?_
    refine lv_iload_n hx hb d_M_leave_6 rfl (lv_at hl 1 rfl) ?_
    refine vp_callSi (va_Run.run (va_runS (As := [.int tt]) (rest := [.ref (a 0)]) ⟨hx, hb, hml, hown, hB⟩ (m_M_isOne l tt) (va_cwS 1 hB (BIG_SS bw_387 bw_388 bw_18 bw_389) rfl rfl rfl ⟨by decide, by decide, by decide +kernel⟩ ⟨Nat.le_of_ble_eq_true rfl, Nat.le_of_ble_eq_true rfl⟩) preEq rfl rfl hl.1 rfl (lv_room (Nat.le_of_ble_eq_true rfl)) d_M_leave_7 ⟨Nat.zero_le _, Nat.zero_le _⟩)) (fun r7 hr7 => ?_)
    refine W.eq (g2 := F0 m 10 ls [.int (bI false), .ref (a 0)]) (by rw [hr7, hq]; rfl) ?_
    refine lv_if_ne hx hb d_M_leave_10 rfl (fun h9 => absurd h9 (by decide)) (fun _ => ?_)
    refine lv_iconst (v := bI true) hx hb d_M_leave_13 (by decide) ?_
    refine lv_goto hx hb d_M_leave_14 rfl ?_
    refine lv_iconst (v := 1) hx hb d_M_leave_18 (by decide) ?_
    have hFc := va_free (wc := mW k a (0, zC r, zW r, zG r, zP r, zS r, zH r, zR r, zO r, zD r, zL r)) hD hS hA [0, 1, 2, 3, 4, 5, 6, 7, 8] rfl
    refine va_calli (va_runV (As := [.int (bI true), .int 1]) (rest := []) ⟨hx, hb, hml, hown, hB⟩ (m_M_fails_t l dC dI k a _ (0, zC r, zW r, zG r, zP r, zS r, zH r, zR r, zO r, zD r, zL r) 1 rfl (by decide)) (cwV 2 hB (BIG_V bw_394 bw_395 bw_10 bw_18 bw_396) rfl rfl rfl ⟨rfl, by decide, by decide, by decide +kernel⟩ ⟨Nat.le_of_ble_eq_true rfl, Nat.le_of_ble_eq_true rfl⟩) (mPc_pre _ hP hK hD) rfl rfl hl.1 rfl (lv_room (Nat.le_of_ble_eq_true rfl)) d_M_leave_19 ⟨Nat.zero_le _, Nat.zero_le _⟩) hS (fun q _ h => hFc q h) hFc (fun r7 u t H1 locs ht hvm hw hB1 hz1 hk1 hS => ?_)
    obtain ⟨hw1, hw2⟩ := hw
    subst hw1
    subst hw2
    have hP : va_P (dC, dI) vwC (mW k a (zErr (0, zC r, zW r, zG r, zP r, zS r, zH r, zR r, zO r, zD r, zL r) 1)) H1 := by rw [← ht]; exact hB1
    have hD : va_D A (mW k a (zErr (0, zC r, zW r, zG r, zP r, zS r, zH r, zR r, zO r, zD r, zL r) 1)) := mW_D hDk
    clear hFc hB1 hk1 hz1 ht hvm
    generalize H1 = H at hP hS ⊢
    have hP : va_P (dC, dI) vwC (mW k a (1, zC r, zW r, zG r, zP r, zS r, zH r, zR r, zO r, zD r, zL r)) H := hP
    have hD : va_D A (mW k a (1, zC r, zW r, zG r, zP r, zS r, zH r, zR r, zO r, zD r, zL r)) := hD
    refine lv_if_ne hx hb d_M_leave_22 rfl (fun _ => ?_) (fun h9 => absurd h9 (by decide))
    exact W.vret hx hb hr (fun t ht hW => ⟨⟨(1, zC r, zW r, zG r, zP r, zS r, zH r, zR r, zO r, zD r, zL r), rfl, by unfold zLeave; rw [hq]; first | done | rfl, by show va_P (dC, dI) vwC _ t.heap; rw [ht]; exact hP⟩, hS.F ht⟩) hS.2.2 d_M_leave_47
  | some j =>
    obtain ⟨hj, htj⟩ := ix_some (by decide) hq
    subst htj
    cases ho : zO r j with
    | false =>
      refine lv_aload_n hx hb d_M_leave_0 rfl (lv_at hl 0 rfl) ?_
      refine lv_iconst (v := 0) hx hb d_M_leave_1 (by decide) ?_
      refine va_put (D := (dC, dI)) (ci := 2) (v := .int 0) (ty := .int) (C := R_M) (T := F_M) (N := 11) hx hb hB in_M tf_M ty_M nm_M hown hK hP hD hS 0 rfl rfl 0 (by decide) (hB _ bw_355) (fun _ h9 => h9) rfl (by decide +kernel) rfl rfl (Nat.le_of_ble_eq_true rfl) d_M_leave_2 (fun H locs hP hD hS => ?_)
      have hP : va_P (dC, dI) vwC (mW k a (0, zC r, zW r, zG r, zP r, zS r, zH r, zR r, zO r, zD r, zL r)) H := hP
      have hD : va_D A (mW k a (0, zC r, zW r, zG r, zP r, zS r, zH r, zR r, zO r, zD r, zL r)) := hD
      refine lv_aload_n hx hb d_M_leave_5 rfl (lv_at hl 0 rfl) ?_
      refine lv_iload_n hx hb d_M_leave_6 rfl (lv_at hl 1 rfl) ?_
      refine vp_callSi (va_Run.run (va_runS (As := [.int (nI j)]) (rest := [.ref (a 0)]) ⟨hx, hb, hml, hown, hB⟩ (m_M_isOne l (nI j)) (va_cwS 1 hB (BIG_SS bw_387 bw_388 bw_18 bw_389) rfl rfl rfl ⟨by decide, by decide, by decide +kernel⟩ ⟨Nat.le_of_ble_eq_true rfl, Nat.le_of_ble_eq_true rfl⟩) preEq rfl rfl hl.1 rfl (lv_room (Nat.le_of_ble_eq_true rfl)) d_M_leave_7 ⟨Nat.zero_le _, Nat.zero_le _⟩)) (fun r7 hr7 => ?_)
      refine W.eq (g2 := F0 m 10 ls [.int (bI true), .ref (a 0)]) (by rw [hr7, hq]; rfl) ?_
      refine lv_if_ne hx hb d_M_leave_10 rfl (fun _ => ?_) (fun h9 => absurd h9 (by decide))
      refine lv_iconst (v := bI false) hx hb d_M_leave_17 (by decide) ?_
      refine lv_iconst (v := 1) hx hb d_M_leave_18 (by decide) ?_
      have hFc := va_free (wc := mW k a (0, zC r, zW r, zG r, zP r, zS r, zH r, zR r, zO r, zD r, zL r)) hD hS hA [0, 1, 2, 3, 4, 5, 6, 7, 8] rfl
      refine va_calli (va_runV (As := [.int (bI false), .int 1]) (rest := []) ⟨hx, hb, hml, hown, hB⟩ (m_M_fails_f l dC dI k a _ (0, zC r, zW r, zG r, zP r, zS r, zH r, zR r, zO r, zD r, zL r) 1 rfl) (cwV 2 hB (BIG_V bw_394 bw_395 bw_10 bw_18 bw_396) rfl rfl rfl ⟨rfl, by decide, by decide, by decide +kernel⟩ ⟨Nat.le_of_ble_eq_true rfl, Nat.le_of_ble_eq_true rfl⟩) (mPc_pre _ hP hK hD) rfl rfl hl.1 rfl (lv_room (Nat.le_of_ble_eq_true rfl)) d_M_leave_19 ⟨Nat.zero_le _, Nat.zero_le _⟩) hS (fun q _ h => hFc q h) hFc (fun r7 u t H1 locs ht hvm hw hB1 hz1 hk1 hS => ?_)
      obtain ⟨hw1, hw2⟩ := hw
      subst hw1
      subst hw2
      have hP : va_P (dC, dI) vwC (mW k a (0, zC r, zW r, zG r, zP r, zS r, zH r, zR r, zO r, zD r, zL r)) H1 := by rw [← ht]; exact hB1
      have hD : va_D A (mW k a (0, zC r, zW r, zG r, zP r, zS r, zH r, zR r, zO r, zD r, zL r)) := mW_D hDk
      clear hFc hB1 hk1 hz1 ht hvm
      generalize H1 = H at hP hS ⊢
      refine lv_if_ne hx hb d_M_leave_22 rfl (fun h9 => absurd h9 (by decide)) (fun _ => ?_)
      refine lv_aload_n hx hb d_M_leave_25 rfl (lv_at hl 0 rfl) ?_
      refine lv_aload_n hx hb d_M_leave_26 rfl (lv_at hl 0 rfl) ?_
      refine va_get (D := (dC, dI)) (ci := 2) (v := .ref (a 8)) (C := R_M) (T := F_M) (N := 11) hx hb hB in_M hown hK hP 0 rfl rfl 8 (by decide) (hB _ bw_363) (fun _ h9 => h9) rfl d_M_leave_27 ?_
      refine lv_iload_n hx hb d_M_leave_30 rfl (lv_at hl 1 rfl) ?_
      refine va_zald hx hb hK hP 8 4 rfl rfl (pk_in j 8 (by omega)) d_M_leave_31 ?_
      refine W.eq (g2 := F0 m 32 ls [.int (bI (zO r j)), .ref (a 0)]) (by rw [cl_nI (by omega)]) ?_
      refine W.eq (g2 := F0 m 32 ls [.int (bI false), .ref (a 0)]) (by rw [ho]) ?_
      refine lv_if_ne hx hb d_M_leave_32 rfl (fun h9 => absurd h9 (by decide)) (fun _ => ?_)
      refine lv_iconst (v := bI true) hx hb d_M_leave_35 (by decide) ?_
      refine lv_goto hx hb d_M_leave_36 rfl ?_
      refine lv_iconst (v := 2) hx hb d_M_leave_40 (by decide) ?_
      have hFc := va_free (wc := mW k a (0, zC r, zW r, zG r, zP r, zS r, zH r, zR r, zO r, zD r, zL r)) hD hS hA [0, 1, 2, 3, 4, 5, 6, 7, 8] rfl
      refine va_calli (va_runV (As := [.int (bI true), .int 2]) (rest := []) ⟨hx, hb, hml, hown, hB⟩ (m_M_fails_t l dC dI k a _ (0, zC r, zW r, zG r, zP r, zS r, zH r, zR r, zO r, zD r, zL r) 2 rfl (by decide)) (cwV 2 hB (BIG_V bw_394 bw_395 bw_10 bw_18 bw_396) rfl rfl rfl ⟨rfl, by decide, by decide, by decide +kernel⟩ ⟨Nat.le_of_ble_eq_true rfl, Nat.le_of_ble_eq_true rfl⟩) (mPc_pre _ hP hK hD) rfl rfl hl.1 rfl (lv_room (Nat.le_of_ble_eq_true rfl)) d_M_leave_41 ⟨Nat.zero_le _, Nat.zero_le _⟩) hS (fun q _ h => hFc q h) hFc (fun r7 u t H1 locs ht hvm hw hB1 hz1 hk1 hS => ?_)
      obtain ⟨hw1, hw2⟩ := hw
      subst hw1
      subst hw2
      have hP : va_P (dC, dI) vwC (mW k a (zErr (0, zC r, zW r, zG r, zP r, zS r, zH r, zR r, zO r, zD r, zL r) 2)) H1 := by rw [← ht]; exact hB1
      have hD : va_D A (mW k a (zErr (0, zC r, zW r, zG r, zP r, zS r, zH r, zR r, zO r, zD r, zL r) 2)) := mW_D hDk
      clear hFc hB1 hk1 hz1 ht hvm
      generalize H1 = H at hP hS ⊢
      have hP : va_P (dC, dI) vwC (mW k a (2, zC r, zW r, zG r, zP r, zS r, zH r, zR r, zO r, zD r, zL r)) H := hP
      have hD : va_D A (mW k a (2, zC r, zW r, zG r, zP r, zS r, zH r, zR r, zO r, zD r, zL r)) := hD
      refine lv_if_eq hx hb d_M_leave_44 rfl (fun h9 => absurd h9 (by decide)) (fun _ => ?_)
      exact W.vret hx hb hr (fun t ht hW => ⟨⟨(2, zC r, zW r, zG r, zP r, zS r, zH r, zR r, zO r, zD r, zL r), rfl, by unfold zLeave; rw [hq]; dsimp only; rw [if_pos ho]; first | done | rfl, by show va_P (dC, dI) vwC _ t.heap; rw [ht]; exact hP⟩, hS.F ht⟩) hS.2.2 d_M_leave_47
    | true =>
      refine lv_aload_n hx hb d_M_leave_0 rfl (lv_at hl 0 rfl) ?_
      refine lv_iconst (v := 0) hx hb d_M_leave_1 (by decide) ?_
      refine va_put (D := (dC, dI)) (ci := 2) (v := .int 0) (ty := .int) (C := R_M) (T := F_M) (N := 11) hx hb hB in_M tf_M ty_M nm_M hown hK hP hD hS 0 rfl rfl 0 (by decide) (hB _ bw_355) (fun _ h9 => h9) rfl (by decide +kernel) rfl rfl (Nat.le_of_ble_eq_true rfl) d_M_leave_2 (fun H locs hP hD hS => ?_)
      have hP : va_P (dC, dI) vwC (mW k a (0, zC r, zW r, zG r, zP r, zS r, zH r, zR r, zO r, zD r, zL r)) H := hP
      have hD : va_D A (mW k a (0, zC r, zW r, zG r, zP r, zS r, zH r, zR r, zO r, zD r, zL r)) := hD
      refine lv_aload_n hx hb d_M_leave_5 rfl (lv_at hl 0 rfl) ?_
      refine lv_iload_n hx hb d_M_leave_6 rfl (lv_at hl 1 rfl) ?_
      refine vp_callSi (va_Run.run (va_runS (As := [.int (nI j)]) (rest := [.ref (a 0)]) ⟨hx, hb, hml, hown, hB⟩ (m_M_isOne l (nI j)) (va_cwS 1 hB (BIG_SS bw_387 bw_388 bw_18 bw_389) rfl rfl rfl ⟨by decide, by decide, by decide +kernel⟩ ⟨Nat.le_of_ble_eq_true rfl, Nat.le_of_ble_eq_true rfl⟩) preEq rfl rfl hl.1 rfl (lv_room (Nat.le_of_ble_eq_true rfl)) d_M_leave_7 ⟨Nat.zero_le _, Nat.zero_le _⟩)) (fun r7 hr7 => ?_)
      refine W.eq (g2 := F0 m 10 ls [.int (bI true), .ref (a 0)]) (by rw [hr7, hq]; rfl) ?_
      refine lv_if_ne hx hb d_M_leave_10 rfl (fun _ => ?_) (fun h9 => absurd h9 (by decide))
      refine lv_iconst (v := bI false) hx hb d_M_leave_17 (by decide) ?_
      refine lv_iconst (v := 1) hx hb d_M_leave_18 (by decide) ?_
      have hFc := va_free (wc := mW k a (0, zC r, zW r, zG r, zP r, zS r, zH r, zR r, zO r, zD r, zL r)) hD hS hA [0, 1, 2, 3, 4, 5, 6, 7, 8] rfl
      refine va_calli (va_runV (As := [.int (bI false), .int 1]) (rest := []) ⟨hx, hb, hml, hown, hB⟩ (m_M_fails_f l dC dI k a _ (0, zC r, zW r, zG r, zP r, zS r, zH r, zR r, zO r, zD r, zL r) 1 rfl) (cwV 2 hB (BIG_V bw_394 bw_395 bw_10 bw_18 bw_396) rfl rfl rfl ⟨rfl, by decide, by decide, by decide +kernel⟩ ⟨Nat.le_of_ble_eq_true rfl, Nat.le_of_ble_eq_true rfl⟩) (mPc_pre _ hP hK hD) rfl rfl hl.1 rfl (lv_room (Nat.le_of_ble_eq_true rfl)) d_M_leave_19 ⟨Nat.zero_le _, Nat.zero_le _⟩) hS (fun q _ h => hFc q h) hFc (fun r7 u t H1 locs ht hvm hw hB1 hz1 hk1 hS => ?_)
      obtain ⟨hw1, hw2⟩ := hw
      subst hw1
      subst hw2
      have hP : va_P (dC, dI) vwC (mW k a (0, zC r, zW r, zG r, zP r, zS r, zH r, zR r, zO r, zD r, zL r)) H1 := by rw [← ht]; exact hB1
      have hD : va_D A (mW k a (0, zC r, zW r, zG r, zP r, zS r, zH r, zR r, zO r, zD r, zL r)) := mW_D hDk
      clear hFc hB1 hk1 hz1 ht hvm
      generalize H1 = H at hP hS ⊢
      refine lv_if_ne hx hb d_M_leave_22 rfl (fun h9 => absurd h9 (by decide)) (fun _ => ?_)
      refine lv_aload_n hx hb d_M_leave_25 rfl (lv_at hl 0 rfl) ?_
      refine lv_aload_n hx hb d_M_leave_26 rfl (lv_at hl 0 rfl) ?_
      refine va_get (D := (dC, dI)) (ci := 2) (v := .ref (a 8)) (C := R_M) (T := F_M) (N := 11) hx hb hB in_M hown hK hP 0 rfl rfl 8 (by decide) (hB _ bw_363) (fun _ h9 => h9) rfl d_M_leave_27 ?_
      refine lv_iload_n hx hb d_M_leave_30 rfl (lv_at hl 1 rfl) ?_
      refine va_zald hx hb hK hP 8 4 rfl rfl (pk_in j 8 (by omega)) d_M_leave_31 ?_
      refine W.eq (g2 := F0 m 32 ls [.int (bI (zO r j)), .ref (a 0)]) (by rw [cl_nI (by omega)]) ?_
      refine W.eq (g2 := F0 m 32 ls [.int (bI true), .ref (a 0)]) (by rw [ho]) ?_
      refine lv_if_ne hx hb d_M_leave_32 rfl (fun _ => ?_) (fun h9 => absurd h9 (by decide))
      refine lv_iconst (v := bI false) hx hb d_M_leave_39 (by decide) ?_
      refine lv_iconst (v := 2) hx hb d_M_leave_40 (by decide) ?_
      have hFc := va_free (wc := mW k a (0, zC r, zW r, zG r, zP r, zS r, zH r, zR r, zO r, zD r, zL r)) hD hS hA [0, 1, 2, 3, 4, 5, 6, 7, 8] rfl
      refine va_calli (va_runV (As := [.int (bI false), .int 2]) (rest := []) ⟨hx, hb, hml, hown, hB⟩ (m_M_fails_f l dC dI k a _ (0, zC r, zW r, zG r, zP r, zS r, zH r, zR r, zO r, zD r, zL r) 2 rfl) (cwV 2 hB (BIG_V bw_394 bw_395 bw_10 bw_18 bw_396) rfl rfl rfl ⟨rfl, by decide, by decide, by decide +kernel⟩ ⟨Nat.le_of_ble_eq_true rfl, Nat.le_of_ble_eq_true rfl⟩) (mPc_pre _ hP hK hD) rfl rfl hl.1 rfl (lv_room (Nat.le_of_ble_eq_true rfl)) d_M_leave_41 ⟨Nat.zero_le _, Nat.zero_le _⟩) hS (fun q _ h => hFc q h) hFc (fun r7 u t H1 locs ht hvm hw hB1 hz1 hk1 hS => ?_)
      obtain ⟨hw1, hw2⟩ := hw
      subst hw1
      subst hw2
      have hP : va_P (dC, dI) vwC (mW k a (0, zC r, zW r, zG r, zP r, zS r, zH r, zR r, zO r, zD r, zL r)) H1 := by rw [← ht]; exact hB1
      have hD : va_D A (mW k a (0, zC r, zW r, zG r, zP r, zS r, zH r, zR r, zO r, zD r, zL r)) := mW_D hDk
      clear hFc hB1 hk1 hz1 ht hvm
      generalize H1 = H at hP hS ⊢
      refine lv_if_eq hx hb d_M_leave_44 rfl (fun _ => ?_) (fun h9 => absurd (by decide) h9)
      refine lv_aload_n hx hb d_M_leave_48 rfl (lv_at hl 0 rfl) ?_
      refine va_get (D := (dC, dI)) (ci := 2) (v := .ref (a 8)) (C := R_M) (T := F_M) (N := 11) hx hb hB in_M hown hK hP 0 rfl rfl 8 (by decide) (hB _ bw_363) (fun _ h9 => h9) rfl d_M_leave_49 ?_
      refine lv_iload_n hx hb d_M_leave_52 rfl (lv_at hl 1 rfl) ?_
      refine lv_iconst (v := bI false) hx hb d_M_leave_53 (by decide) ?_
      refine va_zast hx hb hK hP hD hS 8 4 rfl rfl (pk_in j 8 (by omega)) d_M_leave_54 (fun H locs hP hD hS => ?_)
      rw [cl_nI (by omega), bI_upd] at hP
      have hP : va_P (dC, dI) vwC (mW k a (0, zC r, zW r, zG r, zP r, zS r, zH r, zR r, va_up (zO r) j false, zD r, zL r)) H := hP
      have hD : va_D A (mW k a (0, zC r, zW r, zG r, zP r, zS r, zH r, zR r, va_up (zO r) j false, zD r, zL r)) := mW_D hDk
      exact W.vret hx hb hr (fun t ht hW => ⟨⟨(0, zC r, zW r, zG r, zP r, zS r, zH r, zR r, va_up (zO r) j false, zD r, zL r), rfl, by unfold zLeave; rw [hq]; dsimp only; rw [if_neg (by rw [ho]; decide)]; first | done | rfl, by show va_P (dC, dI) vwC _ t.heap; rw [ht]; exact hP⟩, hS.F ht⟩) hS.2.2 d_M_leave_55
set_option maxHeartbeats 4000000 in
set_option maxRecDepth 100000 in
theorem m_M_set (l : Launch) (dC : Nat → ClassId) (dI : Nat → Nat → Nat) (k : Nat → ClassId) (a : Nat → Nat) (sz : Nat) (r : xRS) (kk : Int32) (x : Int64) : Met l y_M_set w_M_set (rmx 2 0 0 80) (mPc dC dI k a sz r [.ref (a 0), .int kk, .long x]) (va_Qv (fun u => u = zPut r kk x) (mB dC dI k a) (va_A (mW k a r) sz)) 0 0 (va_A (mW k a r) sz) := by
  refine Met.ofW (cc := c_M_set) (maxL := 4) (ret := none) (by decide) rfl ?_
  intro p e s m args below meth c s₁ B hml hv
  obtain ⟨rfl, hsz, hP, hK, hD0⟩ := hv
  have hx := B.exec
  have hb := B.bytes
  have hr := B.returns
  have hts := atoms_spec (ws := w_M_set) B.pre
  have hB : ∀ w ∈ BIG, w.before _ s = true := fun w h => hts w (List.mem_cons_of_mem _ h)
  have hown : s.vm.findClass R_M = some m.cls := findClass_of_methodNamed B.named
  have hlocks := B.notSynchronized
  have hl := lv_entry ([.ref (a 0), .int kk, .long x]) (n := 4) (Nat.le_of_ble_eq_true rfl)
  rw [lg_entry_eq]
  generalize (lg_sl ([.ref (a 0), .int kk, .long x]) ++ List.replicate (4 - (lg_sl ([.ref (a 0), .int kk, .long x])).length) Slot.unset).toArray = ls at hl ⊢
  have hl : lv_has ls 4 [(0, .ref (a 0)), (1, .int kk), (2, .long x)] := hl
  subst hsz
  have hD := hD0.self (sz := s.heap.size)
  generalize hAe : va_A (mW k a r) s.heap.size = A at hD ⊢
  have hA : ∀ q : Nat, s.heap.size ≤ q → A q := fun q h => by rw [← hAe]; exact Or.inr h
  have hS : va_S A s.heap s.heap [] := va_S.rf
  have hDk := hD
  cases hq : ix 32 kk with
  | none =>
    refine lv_aload_n hx hb d_M_set_0 rfl (lv_at hl 0 rfl) ?_
    refine lv_iconst (v := 0) hx hb d_M_set_1 (by decide) ?_
    refine va_put (D := (dC, dI)) (ci := 2) (v := .int 0) (ty := .int) (C := R_M) (T := F_M) (N := 11) hx hb hB in_M tf_M ty_M nm_M hown hK hP hD hS 0 rfl rfl 0 (by decide) (hB _ bw_355) (fun _ h9 => h9) rfl (by decide +kernel) rfl rfl (Nat.le_of_ble_eq_true rfl) d_M_set_2 (fun H locs hP hD hS => ?_)
    have hP : va_P (dC, dI) vwC (mW k a (0, zC r, zW r, zG r, zP r, zS r, zH r, zR r, zO r, zD r, zL r)) H := hP
    have hD : va_D A (mW k a (0, zC r, zW r, zG r, zP r, zS r, zH r, zR r, zO r, zD r, zL r)) := hD
    refine lv_aload_n hx hb d_M_set_5 rfl (lv_at hl 0 rfl) ?_
    refine lv_iload_n hx hb d_M_set_6 rfl (lv_at hl 1 rfl) ?_
    refine vp_callSi (va_Run.run (va_runS (As := [.int kk]) (rest := [.ref (a 0)]) ⟨hx, hb, hml, hown, hB⟩ (m_M_isCell l kk) (va_cwS 1 hB (BIG_SS bw_404 bw_405 bw_18 bw_406) rfl rfl rfl ⟨by decide, by decide, by decide +kernel⟩ ⟨Nat.le_of_ble_eq_true rfl, Nat.le_of_ble_eq_true rfl⟩) preEq rfl rfl hl.1 rfl (lv_room (Nat.le_of_ble_eq_true rfl)) d_M_set_7 ⟨Nat.zero_le _, Nat.zero_le _⟩)) (fun r7 hr7 => ?_)
    refine W.eq (g2 := F0 m 10 ls [.int (bI false), .ref (a 0)]) (by rw [hr7, hq]; rfl) ?_
    refine lv_if_ne hx hb d_M_set_10 rfl (fun h9 => absurd h9 (by decide)) (fun _ => ?_)
    refine lv_iconst (v := bI true) hx hb d_M_set_13 (by decide) ?_
    refine lv_goto hx hb d_M_set_14 rfl ?_
    refine lv_iconst (v := 1) hx hb d_M_set_18 (by decide) ?_
    have hFc := va_free (wc := mW k a (0, zC r, zW r, zG r, zP r, zS r, zH r, zR r, zO r, zD r, zL r)) hD hS hA [0, 1, 2, 3, 4, 5, 6, 7, 8] rfl
    refine va_calli (va_runV (As := [.int (bI true), .int 1]) (rest := []) ⟨hx, hb, hml, hown, hB⟩ (m_M_fails_t l dC dI k a _ (0, zC r, zW r, zG r, zP r, zS r, zH r, zR r, zO r, zD r, zL r) 1 rfl (by decide)) (cwV 2 hB (BIG_V bw_394 bw_395 bw_10 bw_18 bw_396) rfl rfl rfl ⟨rfl, by decide, by decide, by decide +kernel⟩ ⟨Nat.le_of_ble_eq_true rfl, Nat.le_of_ble_eq_true rfl⟩) (mPc_pre _ hP hK hD) rfl rfl hl.1 rfl (lv_room (Nat.le_of_ble_eq_true rfl)) d_M_set_19 ⟨Nat.zero_le _, Nat.zero_le _⟩) hS (fun q _ h => hFc q h) hFc (fun r7 u t H1 locs ht hvm hw hB1 hz1 hk1 hS => ?_)
    obtain ⟨hw1, hw2⟩ := hw
    subst hw1
    subst hw2
    have hP : va_P (dC, dI) vwC (mW k a (zErr (0, zC r, zW r, zG r, zP r, zS r, zH r, zR r, zO r, zD r, zL r) 1)) H1 := by rw [← ht]; exact hB1
    have hD : va_D A (mW k a (zErr (0, zC r, zW r, zG r, zP r, zS r, zH r, zR r, zO r, zD r, zL r) 1)) := mW_D hDk
    clear hFc hB1 hk1 hz1 ht hvm
    generalize H1 = H at hP hS ⊢
    have hP : va_P (dC, dI) vwC (mW k a (1, zC r, zW r, zG r, zP r, zS r, zH r, zR r, zO r, zD r, zL r)) H := hP
    have hD : va_D A (mW k a (1, zC r, zW r, zG r, zP r, zS r, zH r, zR r, zO r, zD r, zL r)) := hD
    refine lv_if_eq hx hb d_M_set_22 rfl (fun h9 => absurd h9 (by decide)) (fun _ => ?_)
    exact W.vret hx hb hr (fun t ht hW => ⟨⟨(1, zC r, zW r, zG r, zP r, zS r, zH r, zR r, zO r, zD r, zL r), rfl, by unfold zPut; rw [hq]; first | done | rfl, by show va_P (dC, dI) vwC _ t.heap; rw [ht]; exact hP⟩, hS.F ht⟩) hS.2.2 d_M_set_25
  | some i =>
    obtain ⟨hi, hti⟩ := ix_some (by decide) hq
    subst hti
    refine lv_aload_n hx hb d_M_set_0 rfl (lv_at hl 0 rfl) ?_
    refine lv_iconst (v := 0) hx hb d_M_set_1 (by decide) ?_
    refine va_put (D := (dC, dI)) (ci := 2) (v := .int 0) (ty := .int) (C := R_M) (T := F_M) (N := 11) hx hb hB in_M tf_M ty_M nm_M hown hK hP hD hS 0 rfl rfl 0 (by decide) (hB _ bw_355) (fun _ h9 => h9) rfl (by decide +kernel) rfl rfl (Nat.le_of_ble_eq_true rfl) d_M_set_2 (fun H locs hP hD hS => ?_)
    have hP : va_P (dC, dI) vwC (mW k a (0, zC r, zW r, zG r, zP r, zS r, zH r, zR r, zO r, zD r, zL r)) H := hP
    have hD : va_D A (mW k a (0, zC r, zW r, zG r, zP r, zS r, zH r, zR r, zO r, zD r, zL r)) := hD
    refine lv_aload_n hx hb d_M_set_5 rfl (lv_at hl 0 rfl) ?_
    refine lv_iload_n hx hb d_M_set_6 rfl (lv_at hl 1 rfl) ?_
    refine vp_callSi (va_Run.run (va_runS (As := [.int (nI i)]) (rest := [.ref (a 0)]) ⟨hx, hb, hml, hown, hB⟩ (m_M_isCell l (nI i)) (va_cwS 1 hB (BIG_SS bw_404 bw_405 bw_18 bw_406) rfl rfl rfl ⟨by decide, by decide, by decide +kernel⟩ ⟨Nat.le_of_ble_eq_true rfl, Nat.le_of_ble_eq_true rfl⟩) preEq rfl rfl hl.1 rfl (lv_room (Nat.le_of_ble_eq_true rfl)) d_M_set_7 ⟨Nat.zero_le _, Nat.zero_le _⟩)) (fun r7 hr7 => ?_)
    refine W.eq (g2 := F0 m 10 ls [.int (bI true), .ref (a 0)]) (by rw [hr7, hq]; rfl) ?_
    refine lv_if_ne hx hb d_M_set_10 rfl (fun _ => ?_) (fun h9 => absurd h9 (by decide))
    refine lv_iconst (v := bI false) hx hb d_M_set_17 (by decide) ?_
    refine lv_iconst (v := 1) hx hb d_M_set_18 (by decide) ?_
    have hFc := va_free (wc := mW k a (0, zC r, zW r, zG r, zP r, zS r, zH r, zR r, zO r, zD r, zL r)) hD hS hA [0, 1, 2, 3, 4, 5, 6, 7, 8] rfl
    refine va_calli (va_runV (As := [.int (bI false), .int 1]) (rest := []) ⟨hx, hb, hml, hown, hB⟩ (m_M_fails_f l dC dI k a _ (0, zC r, zW r, zG r, zP r, zS r, zH r, zR r, zO r, zD r, zL r) 1 rfl) (cwV 2 hB (BIG_V bw_394 bw_395 bw_10 bw_18 bw_396) rfl rfl rfl ⟨rfl, by decide, by decide, by decide +kernel⟩ ⟨Nat.le_of_ble_eq_true rfl, Nat.le_of_ble_eq_true rfl⟩) (mPc_pre _ hP hK hD) rfl rfl hl.1 rfl (lv_room (Nat.le_of_ble_eq_true rfl)) d_M_set_19 ⟨Nat.zero_le _, Nat.zero_le _⟩) hS (fun q _ h => hFc q h) hFc (fun r7 u t H1 locs ht hvm hw hB1 hz1 hk1 hS => ?_)
    obtain ⟨hw1, hw2⟩ := hw
    subst hw1
    subst hw2
    have hP : va_P (dC, dI) vwC (mW k a (0, zC r, zW r, zG r, zP r, zS r, zH r, zR r, zO r, zD r, zL r)) H1 := by rw [← ht]; exact hB1
    have hD : va_D A (mW k a (0, zC r, zW r, zG r, zP r, zS r, zH r, zR r, zO r, zD r, zL r)) := mW_D hDk
    clear hFc hB1 hk1 hz1 ht hvm
    generalize H1 = H at hP hS ⊢
    refine lv_if_eq hx hb d_M_set_22 rfl (fun _ => ?_) (fun h9 => absurd (by decide) h9)
    refine lv_aload_n hx hb d_M_set_26 rfl (lv_at hl 0 rfl) ?_
    refine lv_iload_n hx hb d_M_set_27 rfl (lv_at hl 1 rfl) ?_
    refine lv_lload_n hx hb d_M_set_28 rfl (lv_at hl 2 rfl) ?_
    have hFc := va_free (wc := mW k a (0, zC r, zW r, zG r, zP r, zS r, zH r, zR r, zO r, zD r, zL r)) hD hS hA [0, 1, 2, 3, 4, 5, 6, 7, 8] rfl
    refine va_callv (va_runV (As := [.int (nI i), .long x]) (rest := []) ⟨hx, hb, hml, hown, hB⟩ (m_M_change l dC dI k a _ (0, zC r, zW r, zG r, zP r, zS r, zH r, zR r, zO r, zD r, zL r) i x hi) (cwV 2 hB (BIG_V bw_434 bw_435 bw_14 bw_18 bw_436) rfl rfl rfl ⟨rfl, by decide, by decide, by decide +kernel⟩ ⟨Nat.le_of_ble_eq_true rfl, Nat.le_of_ble_eq_true rfl⟩) (mPc_pre _ hP hK hD) rfl rfl hl.1 rfl (lv_room (Nat.le_of_ble_eq_true rfl)) d_M_set_29 ⟨Nat.zero_le _, Nat.zero_le _⟩) hS (fun q _ h => hFc q h) hFc (fun u t H1 locs ht hvm hw hB1 hz1 hk1 hS => ?_)
    subst hw
    have hP : va_P (dC, dI) vwC (mW k a (zChg (0, zC r, zW r, zG r, zP r, zS r, zH r, zR r, zO r, zD r, zL r) i x)) H1 := by rw [← ht]; exact hB1
    have hD : va_D A (mW k a (zChg (0, zC r, zW r, zG r, zP r, zS r, zH r, zR r, zO r, zD r, zL r) i x)) := mW_D hDk
    clear hFc hB1 hk1 hz1 ht hvm
    generalize H1 = H at hP hS ⊢
    exact W.vret hx hb hr (fun t ht hW => ⟨⟨(0, vp_updL (zC r) i x, zW r, upd (zG r) i (zG r i + 1), zP r, zS r, zH r, zR r, zO r, zD r, zL r), rfl, by unfold zPut; rw [hq]; first | done | rfl, by show va_P (dC, dI) vwC _ t.heap; rw [ht]; exact hP⟩, hS.F ht⟩) hS.2.2 d_M_set_32
set_option maxHeartbeats 4000000 in
set_option maxRecDepth 100000 in
theorem m_M_cell (l : Launch) (dC : Nat → ClassId) (dI : Nat → Nat → Nat) (k : Nat → ClassId) (a : Nat → Nat) (sz : Nat) (r : xRS) (kk : Int32) : Met l y_M_cell w_M_cell (rmx 2 0 0 80) (mPc dC dI k a sz r [.ref (a 0), .int kk]) (va_Ql (fun o u => (o, u) = zCell r kk) (mB dC dI k a) (va_A (mW k a r) sz)) 0 0 (va_A (mW k a r) sz) := by
  refine Met.ofW (cc := c_M_cell) (maxL := 2) (ret := (some .long)) (by decide) rfl ?_
  intro p e s m args below meth c s₁ B hml hv
  obtain ⟨rfl, hsz, hP, hK, hD0⟩ := hv
  have hx := B.exec
  have hb := B.bytes
  have hr := B.returns
  have hts := atoms_spec (ws := w_M_cell) B.pre
  have hB : ∀ w ∈ BIG, w.before _ s = true := fun w h => hts w (List.mem_cons_of_mem _ h)
  have hown : s.vm.findClass R_M = some m.cls := findClass_of_methodNamed B.named
  have hlocks := B.notSynchronized
  have hl := lv_entry ([.ref (a 0), .int kk]) (n := 2) (Nat.le_of_ble_eq_true rfl)
  rw [lg_entry_eq]
  generalize (lg_sl ([.ref (a 0), .int kk]) ++ List.replicate (2 - (lg_sl ([.ref (a 0), .int kk])).length) Slot.unset).toArray = ls at hl ⊢
  have hl : lv_has ls 2 [(0, .ref (a 0)), (1, .int kk)] := hl
  subst hsz
  have hD := hD0.self (sz := s.heap.size)
  generalize hAe : va_A (mW k a r) s.heap.size = A at hD ⊢
  have hA : ∀ q : Nat, s.heap.size ≤ q → A q := fun q h => by rw [← hAe]; exact Or.inr h
  have hS : va_S A s.heap s.heap [] := va_S.rf
  have hDk := hD
  cases hq : ix 32 kk with
  | none =>
    refine lv_aload_n hx hb d_M_cell_0 rfl (lv_at hl 0 rfl) ?_
    refine lv_iconst (v := 0) hx hb d_M_cell_1 (by decide) ?_
    refine va_put (D := (dC, dI)) (ci := 2) (v := .int 0) (ty := .int) (C := R_M) (T := F_M) (N := 11) hx hb hB in_M tf_M ty_M nm_M hown hK hP hD hS 0 rfl rfl 0 (by decide) (hB _ bw_355) (fun _ h9 => h9) rfl (by decide +kernel) rfl rfl (Nat.le_of_ble_eq_true rfl) d_M_cell_2 (fun H locs hP hD hS => ?_)
    have hP : va_P (dC, dI) vwC (mW k a (0, zC r, zW r, zG r, zP r, zS r, zH r, zR r, zO r, zD r, zL r)) H := hP
    have hD : va_D A (mW k a (0, zC r, zW r, zG r, zP r, zS r, zH r, zR r, zO r, zD r, zL r)) := hD
    refine lv_aload_n hx hb d_M_cell_5 rfl (lv_at hl 0 rfl) ?_
    refine lv_iload_n hx hb d_M_cell_6 rfl (lv_at hl 1 rfl) ?_
    refine vp_callSi (va_Run.run (va_runS (As := [.int kk]) (rest := [.ref (a 0)]) ⟨hx, hb, hml, hown, hB⟩ (m_M_isCell l kk) (va_cwS 1 hB (BIG_SS bw_404 bw_405 bw_18 bw_406) rfl rfl rfl ⟨by decide, by decide, by decide +kernel⟩ ⟨Nat.le_of_ble_eq_true rfl, Nat.le_of_ble_eq_true rfl⟩) preEq rfl rfl hl.1 rfl (lv_room (Nat.le_of_ble_eq_true rfl)) d_M_cell_7 ⟨Nat.zero_le _, Nat.zero_le _⟩)) (fun r7 hr7 => ?_)
    refine W.eq (g2 := F0 m 10 ls [.int (bI false), .ref (a 0)]) (by rw [hr7, hq]; rfl) ?_
    refine lv_if_ne hx hb d_M_cell_10 rfl (fun h9 => absurd h9 (by decide)) (fun _ => ?_)
    refine lv_iconst (v := bI true) hx hb d_M_cell_13 (by decide) ?_
    refine lv_goto hx hb d_M_cell_14 rfl ?_
    refine lv_iconst (v := 1) hx hb d_M_cell_18 (by decide) ?_
    have hFc := va_free (wc := mW k a (0, zC r, zW r, zG r, zP r, zS r, zH r, zR r, zO r, zD r, zL r)) hD hS hA [0, 1, 2, 3, 4, 5, 6, 7, 8] rfl
    refine va_calli (va_runV (As := [.int (bI true), .int 1]) (rest := []) ⟨hx, hb, hml, hown, hB⟩ (m_M_fails_t l dC dI k a _ (0, zC r, zW r, zG r, zP r, zS r, zH r, zR r, zO r, zD r, zL r) 1 rfl (by decide)) (cwV 2 hB (BIG_V bw_394 bw_395 bw_10 bw_18 bw_396) rfl rfl rfl ⟨rfl, by decide, by decide, by decide +kernel⟩ ⟨Nat.le_of_ble_eq_true rfl, Nat.le_of_ble_eq_true rfl⟩) (mPc_pre _ hP hK hD) rfl rfl hl.1 rfl (lv_room (Nat.le_of_ble_eq_true rfl)) d_M_cell_19 ⟨Nat.zero_le _, Nat.zero_le _⟩) hS (fun q _ h => hFc q h) hFc (fun r7 u t H1 locs ht hvm hw hB1 hz1 hk1 hS => ?_)
    obtain ⟨hw1, hw2⟩ := hw
    subst hw1
    subst hw2
    have hP : va_P (dC, dI) vwC (mW k a (zErr (0, zC r, zW r, zG r, zP r, zS r, zH r, zR r, zO r, zD r, zL r) 1)) H1 := by rw [← ht]; exact hB1
    have hD : va_D A (mW k a (zErr (0, zC r, zW r, zG r, zP r, zS r, zH r, zR r, zO r, zD r, zL r) 1)) := mW_D hDk
    clear hFc hB1 hk1 hz1 ht hvm
    generalize H1 = H at hP hS ⊢
    have hP : va_P (dC, dI) vwC (mW k a (1, zC r, zW r, zG r, zP r, zS r, zH r, zR r, zO r, zD r, zL r)) H := hP
    have hD : va_D A (mW k a (1, zC r, zW r, zG r, zP r, zS r, zH r, zR r, zO r, zD r, zL r)) := hD
    refine lv_if_eq hx hb d_M_cell_22 rfl (fun h9 => absurd h9 (by decide)) (fun _ => ?_)
    refine lv_lconst (v := 0) hx hb d_M_cell_25 (by decide) ?_
    refine lv_goto hx hb d_M_cell_26 rfl ?_
    exact W.lret (v := 0) hx hb hr (fun t ht hW => ⟨⟨0, (1, zC r, zW r, zG r, zP r, zS r, zH r, zR r, zO r, zD r, zL r), rfl, by unfold zCell; rw [hq]; first | done | rfl, by show va_P (dC, dI) vwC _ t.heap; rw [ht]; exact hP⟩, hS.F ht⟩) hS.2.2 d_M_cell_35
  | some i =>
    obtain ⟨hi, hti⟩ := ix_some (by decide) hq
    subst hti
    refine lv_aload_n hx hb d_M_cell_0 rfl (lv_at hl 0 rfl) ?_
    refine lv_iconst (v := 0) hx hb d_M_cell_1 (by decide) ?_
    refine va_put (D := (dC, dI)) (ci := 2) (v := .int 0) (ty := .int) (C := R_M) (T := F_M) (N := 11) hx hb hB in_M tf_M ty_M nm_M hown hK hP hD hS 0 rfl rfl 0 (by decide) (hB _ bw_355) (fun _ h9 => h9) rfl (by decide +kernel) rfl rfl (Nat.le_of_ble_eq_true rfl) d_M_cell_2 (fun H locs hP hD hS => ?_)
    have hP : va_P (dC, dI) vwC (mW k a (0, zC r, zW r, zG r, zP r, zS r, zH r, zR r, zO r, zD r, zL r)) H := hP
    have hD : va_D A (mW k a (0, zC r, zW r, zG r, zP r, zS r, zH r, zR r, zO r, zD r, zL r)) := hD
    refine lv_aload_n hx hb d_M_cell_5 rfl (lv_at hl 0 rfl) ?_
    refine lv_iload_n hx hb d_M_cell_6 rfl (lv_at hl 1 rfl) ?_
    refine vp_callSi (va_Run.run (va_runS (As := [.int (nI i)]) (rest := [.ref (a 0)]) ⟨hx, hb, hml, hown, hB⟩ (m_M_isCell l (nI i)) (va_cwS 1 hB (BIG_SS bw_404 bw_405 bw_18 bw_406) rfl rfl rfl ⟨by decide, by decide, by decide +kernel⟩ ⟨Nat.le_of_ble_eq_true rfl, Nat.le_of_ble_eq_true rfl⟩) preEq rfl rfl hl.1 rfl (lv_room (Nat.le_of_ble_eq_true rfl)) d_M_cell_7 ⟨Nat.zero_le _, Nat.zero_le _⟩)) (fun r7 hr7 => ?_)
    refine W.eq (g2 := F0 m 10 ls [.int (bI true), .ref (a 0)]) (by rw [hr7, hq]; rfl) ?_
    refine lv_if_ne hx hb d_M_cell_10 rfl (fun _ => ?_) (fun h9 => absurd h9 (by decide))
    refine lv_iconst (v := bI false) hx hb d_M_cell_17 (by decide) ?_
    refine lv_iconst (v := 1) hx hb d_M_cell_18 (by decide) ?_
    have hFc := va_free (wc := mW k a (0, zC r, zW r, zG r, zP r, zS r, zH r, zR r, zO r, zD r, zL r)) hD hS hA [0, 1, 2, 3, 4, 5, 6, 7, 8] rfl
    refine va_calli (va_runV (As := [.int (bI false), .int 1]) (rest := []) ⟨hx, hb, hml, hown, hB⟩ (m_M_fails_f l dC dI k a _ (0, zC r, zW r, zG r, zP r, zS r, zH r, zR r, zO r, zD r, zL r) 1 rfl) (cwV 2 hB (BIG_V bw_394 bw_395 bw_10 bw_18 bw_396) rfl rfl rfl ⟨rfl, by decide, by decide, by decide +kernel⟩ ⟨Nat.le_of_ble_eq_true rfl, Nat.le_of_ble_eq_true rfl⟩) (mPc_pre _ hP hK hD) rfl rfl hl.1 rfl (lv_room (Nat.le_of_ble_eq_true rfl)) d_M_cell_19 ⟨Nat.zero_le _, Nat.zero_le _⟩) hS (fun q _ h => hFc q h) hFc (fun r7 u t H1 locs ht hvm hw hB1 hz1 hk1 hS => ?_)
    obtain ⟨hw1, hw2⟩ := hw
    subst hw1
    subst hw2
    have hP : va_P (dC, dI) vwC (mW k a (0, zC r, zW r, zG r, zP r, zS r, zH r, zR r, zO r, zD r, zL r)) H1 := by rw [← ht]; exact hB1
    have hD : va_D A (mW k a (0, zC r, zW r, zG r, zP r, zS r, zH r, zR r, zO r, zD r, zL r)) := mW_D hDk
    clear hFc hB1 hk1 hz1 ht hvm
    generalize H1 = H at hP hS ⊢
    refine lv_if_eq hx hb d_M_cell_22 rfl (fun _ => ?_) (fun h9 => absurd (by decide) h9)
    refine lv_aload_n hx hb d_M_cell_29 rfl (lv_at hl 0 rfl) ?_
    refine va_get (D := (dC, dI)) (ci := 2) (v := .ref (a 1)) (C := R_M) (T := F_M) (N := 11) hx hb hB in_M hown hK hP 0 rfl rfl 1 (by decide) (hB _ bw_356) (fun _ h9 => h9) rfl d_M_cell_30 ?_
    refine lv_iload_n hx hb d_M_cell_33 rfl (lv_at hl 1 rfl) ?_
    refine va_lald hx hb hK hP 1 1 rfl rfl (pk_in i 32 (by omega)) d_M_cell_34 ?_
    refine W.eq (g2 := F0 m 35 ls [.long (zC r i)]) (by rw [cl_nI (by omega)]) ?_
    exact W.lret (v := zC r i) hx hb hr (fun t ht hW => ⟨⟨zC r i, (0, zC r, zW r, zG r, zP r, zS r, zH r, zR r, zO r, zD r, zL r), rfl, by unfold zCell; rw [hq]; first | done | rfl, by show va_P (dC, dI) vwC _ t.heap; rw [ht]; exact hP⟩, hS.F ht⟩) hS.2.2 d_M_cell_35
set_option maxHeartbeats 4000000 in
set_option maxRecDepth 100000 in
theorem m_M_changed (l : Launch) (dC : Nat → ClassId) (dI : Nat → Nat → Nat) (k : Nat → ClassId) (a : Nat → Nat) (sz : Nat) (r : xRS) (kk : Int32) : Met l y_M_changed w_M_changed (rmx 2 0 0 80) (mPc dC dI k a sz r [.ref (a 0), .int kk]) (va_Qi (fun o u => (o, u) = zChd r kk) (mB dC dI k a) (va_A (mW k a r) sz)) 0 0 (va_A (mW k a r) sz) := by
  refine Met.ofW (cc := c_M_changed) (maxL := 2) (ret := (some .int)) (by decide) rfl ?_
  intro p e s m args below meth c s₁ B hml hv
  obtain ⟨rfl, hsz, hP, hK, hD0⟩ := hv
  have hx := B.exec
  have hb := B.bytes
  have hr := B.returns
  have hts := atoms_spec (ws := w_M_changed) B.pre
  have hB : ∀ w ∈ BIG, w.before _ s = true := fun w h => hts w (List.mem_cons_of_mem _ h)
  have hown : s.vm.findClass R_M = some m.cls := findClass_of_methodNamed B.named
  have hlocks := B.notSynchronized
  have hl := lv_entry ([.ref (a 0), .int kk]) (n := 2) (Nat.le_of_ble_eq_true rfl)
  rw [lg_entry_eq]
  generalize (lg_sl ([.ref (a 0), .int kk]) ++ List.replicate (2 - (lg_sl ([.ref (a 0), .int kk])).length) Slot.unset).toArray = ls at hl ⊢
  have hl : lv_has ls 2 [(0, .ref (a 0)), (1, .int kk)] := hl
  subst hsz
  have hD := hD0.self (sz := s.heap.size)
  generalize hAe : va_A (mW k a r) s.heap.size = A at hD ⊢
  have hA : ∀ q : Nat, s.heap.size ≤ q → A q := fun q h => by rw [← hAe]; exact Or.inr h
  have hS : va_S A s.heap s.heap [] := va_S.rf
  have hDk := hD
  cases hq : ix 32 kk with
  | none =>
    refine lv_aload_n hx hb d_M_changed_0 rfl (lv_at hl 0 rfl) ?_
    refine lv_iconst (v := 0) hx hb d_M_changed_1 (by decide) ?_
    refine va_put (D := (dC, dI)) (ci := 2) (v := .int 0) (ty := .int) (C := R_M) (T := F_M) (N := 11) hx hb hB in_M tf_M ty_M nm_M hown hK hP hD hS 0 rfl rfl 0 (by decide) (hB _ bw_355) (fun _ h9 => h9) rfl (by decide +kernel) rfl rfl (Nat.le_of_ble_eq_true rfl) d_M_changed_2 (fun H locs hP hD hS => ?_)
    have hP : va_P (dC, dI) vwC (mW k a (0, zC r, zW r, zG r, zP r, zS r, zH r, zR r, zO r, zD r, zL r)) H := hP
    have hD : va_D A (mW k a (0, zC r, zW r, zG r, zP r, zS r, zH r, zR r, zO r, zD r, zL r)) := hD
    refine lv_aload_n hx hb d_M_changed_5 rfl (lv_at hl 0 rfl) ?_
    refine lv_iload_n hx hb d_M_changed_6 rfl (lv_at hl 1 rfl) ?_
    refine vp_callSi (va_Run.run (va_runS (As := [.int kk]) (rest := [.ref (a 0)]) ⟨hx, hb, hml, hown, hB⟩ (m_M_isCell l kk) (va_cwS 1 hB (BIG_SS bw_404 bw_405 bw_18 bw_406) rfl rfl rfl ⟨by decide, by decide, by decide +kernel⟩ ⟨Nat.le_of_ble_eq_true rfl, Nat.le_of_ble_eq_true rfl⟩) preEq rfl rfl hl.1 rfl (lv_room (Nat.le_of_ble_eq_true rfl)) d_M_changed_7 ⟨Nat.zero_le _, Nat.zero_le _⟩)) (fun r7 hr7 => ?_)
    refine W.eq (g2 := F0 m 10 ls [.int (bI false), .ref (a 0)]) (by rw [hr7, hq]; rfl) ?_
    refine lv_if_ne hx hb d_M_changed_10 rfl (fun h9 => absurd h9 (by decide)) (fun _ => ?_)
    refine lv_iconst (v := bI true) hx hb d_M_changed_13 (by decide) ?_
    refine lv_goto hx hb d_M_changed_14 rfl ?_
    refine lv_iconst (v := 1) hx hb d_M_changed_18 (by decide) ?_
    have hFc := va_free (wc := mW k a (0, zC r, zW r, zG r, zP r, zS r, zH r, zR r, zO r, zD r, zL r)) hD hS hA [0, 1, 2, 3, 4, 5, 6, 7, 8] rfl
    refine va_calli (va_runV (As := [.int (bI true), .int 1]) (rest := []) ⟨hx, hb, hml, hown, hB⟩ (m_M_fails_t l dC dI k a _ (0, zC r, zW r, zG r, zP r, zS r, zH r, zR r, zO r, zD r, zL r) 1 rfl (by decide)) (cwV 2 hB (BIG_V bw_394 bw_395 bw_10 bw_18 bw_396) rfl rfl rfl ⟨rfl, by decide, by decide, by decide +kernel⟩ ⟨Nat.le_of_ble_eq_true rfl, Nat.le_of_ble_eq_true rfl⟩) (mPc_pre _ hP hK hD) rfl rfl hl.1 rfl (lv_room (Nat.le_of_ble_eq_true rfl)) d_M_changed_19 ⟨Nat.zero_le _, Nat.zero_le _⟩) hS (fun q _ h => hFc q h) hFc (fun r7 u t H1 locs ht hvm hw hB1 hz1 hk1 hS => ?_)
    obtain ⟨hw1, hw2⟩ := hw
    subst hw1
    subst hw2
    have hP : va_P (dC, dI) vwC (mW k a (zErr (0, zC r, zW r, zG r, zP r, zS r, zH r, zR r, zO r, zD r, zL r) 1)) H1 := by rw [← ht]; exact hB1
    have hD : va_D A (mW k a (zErr (0, zC r, zW r, zG r, zP r, zS r, zH r, zR r, zO r, zD r, zL r) 1)) := mW_D hDk
    clear hFc hB1 hk1 hz1 ht hvm
    generalize H1 = H at hP hS ⊢
    have hP : va_P (dC, dI) vwC (mW k a (1, zC r, zW r, zG r, zP r, zS r, zH r, zR r, zO r, zD r, zL r)) H := hP
    have hD : va_D A (mW k a (1, zC r, zW r, zG r, zP r, zS r, zH r, zR r, zO r, zD r, zL r)) := hD
    refine lv_if_eq hx hb d_M_changed_22 rfl (fun h9 => absurd h9 (by decide)) (fun _ => ?_)
    refine lv_iconst (v := 0) hx hb d_M_changed_25 (by decide) ?_
    refine lv_goto hx hb d_M_changed_26 rfl ?_
    exact W.iret (v := 0) hx hb hr (fun t ht hW => ⟨⟨0, (1, zC r, zW r, zG r, zP r, zS r, zH r, zR r, zO r, zD r, zL r), rfl, by unfold zChd; rw [hq]; first | done | rfl, by show va_P (dC, dI) vwC _ t.heap; rw [ht]; exact hP⟩, hS.F ht⟩) hS.2.2 d_M_changed_35
  | some i =>
    obtain ⟨hi, hti⟩ := ix_some (by decide) hq
    subst hti
    refine lv_aload_n hx hb d_M_changed_0 rfl (lv_at hl 0 rfl) ?_
    refine lv_iconst (v := 0) hx hb d_M_changed_1 (by decide) ?_
    refine va_put (D := (dC, dI)) (ci := 2) (v := .int 0) (ty := .int) (C := R_M) (T := F_M) (N := 11) hx hb hB in_M tf_M ty_M nm_M hown hK hP hD hS 0 rfl rfl 0 (by decide) (hB _ bw_355) (fun _ h9 => h9) rfl (by decide +kernel) rfl rfl (Nat.le_of_ble_eq_true rfl) d_M_changed_2 (fun H locs hP hD hS => ?_)
    have hP : va_P (dC, dI) vwC (mW k a (0, zC r, zW r, zG r, zP r, zS r, zH r, zR r, zO r, zD r, zL r)) H := hP
    have hD : va_D A (mW k a (0, zC r, zW r, zG r, zP r, zS r, zH r, zR r, zO r, zD r, zL r)) := hD
    refine lv_aload_n hx hb d_M_changed_5 rfl (lv_at hl 0 rfl) ?_
    refine lv_iload_n hx hb d_M_changed_6 rfl (lv_at hl 1 rfl) ?_
    refine vp_callSi (va_Run.run (va_runS (As := [.int (nI i)]) (rest := [.ref (a 0)]) ⟨hx, hb, hml, hown, hB⟩ (m_M_isCell l (nI i)) (va_cwS 1 hB (BIG_SS bw_404 bw_405 bw_18 bw_406) rfl rfl rfl ⟨by decide, by decide, by decide +kernel⟩ ⟨Nat.le_of_ble_eq_true rfl, Nat.le_of_ble_eq_true rfl⟩) preEq rfl rfl hl.1 rfl (lv_room (Nat.le_of_ble_eq_true rfl)) d_M_changed_7 ⟨Nat.zero_le _, Nat.zero_le _⟩)) (fun r7 hr7 => ?_)
    refine W.eq (g2 := F0 m 10 ls [.int (bI true), .ref (a 0)]) (by rw [hr7, hq]; rfl) ?_
    refine lv_if_ne hx hb d_M_changed_10 rfl (fun _ => ?_) (fun h9 => absurd h9 (by decide))
    refine lv_iconst (v := bI false) hx hb d_M_changed_17 (by decide) ?_
    refine lv_iconst (v := 1) hx hb d_M_changed_18 (by decide) ?_
    have hFc := va_free (wc := mW k a (0, zC r, zW r, zG r, zP r, zS r, zH r, zR r, zO r, zD r, zL r)) hD hS hA [0, 1, 2, 3, 4, 5, 6, 7, 8] rfl
    refine va_calli (va_runV (As := [.int (bI false), .int 1]) (rest := []) ⟨hx, hb, hml, hown, hB⟩ (m_M_fails_f l dC dI k a _ (0, zC r, zW r, zG r, zP r, zS r, zH r, zR r, zO r, zD r, zL r) 1 rfl) (cwV 2 hB (BIG_V bw_394 bw_395 bw_10 bw_18 bw_396) rfl rfl rfl ⟨rfl, by decide, by decide, by decide +kernel⟩ ⟨Nat.le_of_ble_eq_true rfl, Nat.le_of_ble_eq_true rfl⟩) (mPc_pre _ hP hK hD) rfl rfl hl.1 rfl (lv_room (Nat.le_of_ble_eq_true rfl)) d_M_changed_19 ⟨Nat.zero_le _, Nat.zero_le _⟩) hS (fun q _ h => hFc q h) hFc (fun r7 u t H1 locs ht hvm hw hB1 hz1 hk1 hS => ?_)
    obtain ⟨hw1, hw2⟩ := hw
    subst hw1
    subst hw2
    have hP : va_P (dC, dI) vwC (mW k a (0, zC r, zW r, zG r, zP r, zS r, zH r, zR r, zO r, zD r, zL r)) H1 := by rw [← ht]; exact hB1
    have hD : va_D A (mW k a (0, zC r, zW r, zG r, zP r, zS r, zH r, zR r, zO r, zD r, zL r)) := mW_D hDk
    clear hFc hB1 hk1 hz1 ht hvm
    generalize H1 = H at hP hS ⊢
    refine lv_if_eq hx hb d_M_changed_22 rfl (fun _ => ?_) (fun h9 => absurd (by decide) h9)
    refine lv_aload_n hx hb d_M_changed_29 rfl (lv_at hl 0 rfl) ?_
    refine va_get (D := (dC, dI)) (ci := 2) (v := .ref (a 3)) (C := R_M) (T := F_M) (N := 11) hx hb hB in_M hown hK hP 0 rfl rfl 3 (by decide) (hB _ bw_358) (fun _ h9 => h9) rfl d_M_changed_30 ?_
    refine lv_iload_n hx hb d_M_changed_33 rfl (lv_at hl 1 rfl) ?_
    refine va_iald hx hb hK hP 3 0 rfl rfl (pk_in i 32 (by omega)) d_M_changed_34 ?_
    refine W.eq (g2 := F0 m 35 ls [.int (zG r i)]) (by rw [cl_nI (by omega)]) ?_
    exact W.iret (v := zG r i) hx hb hr (fun t ht hW => ⟨⟨zG r i, (0, zC r, zW r, zG r, zP r, zS r, zH r, zR r, zO r, zD r, zL r), rfl, by unfold zChd; rw [hq]; first | done | rfl, by show va_P (dC, dI) vwC _ t.heap; rw [ht]; exact hP⟩, hS.F ht⟩) hS.2.2 d_M_changed_35
set_option maxHeartbeats 4000000 in
set_option maxRecDepth 100000 in
theorem m_M_back (l : Launch) (dC : Nat → ClassId) (dI : Nat → Nat → Nat) (k : Nat → ClassId) (a : Nat → Nat) (sz : Nat) (r : xRS) (tt : Int32) (hok : mOk r) : Met l y_M_back w_M_back (rmx 2 0 0 80) (mPc dC dI k a sz r [.ref (a 0), .int tt]) (va_Qv (fun u => u = zBack r tt) (mB dC dI k a) (va_A (mW k a r) sz)) 0 0 (va_A (mW k a r) sz) := by
  refine Met.ofW (cc := c_M_back) (maxL := 2) (ret := none) (by decide) rfl ?_
  intro p e s m args below meth c s₁ B hml hv
  obtain ⟨rfl, hsz, hP, hK, hD0⟩ := hv
  have hx := B.exec
  have hb := B.bytes
  have hr := B.returns
  have hts := atoms_spec (ws := w_M_back) B.pre
  have hB : ∀ w ∈ BIG, w.before _ s = true := fun w h => hts w (List.mem_cons_of_mem _ h)
  have hown : s.vm.findClass R_M = some m.cls := findClass_of_methodNamed B.named
  have hlocks := B.notSynchronized
  have hl := lv_entry ([.ref (a 0), .int tt]) (n := 2) (Nat.le_of_ble_eq_true rfl)
  rw [lg_entry_eq]
  generalize (lg_sl ([.ref (a 0), .int tt]) ++ List.replicate (2 - (lg_sl ([.ref (a 0), .int tt])).length) Slot.unset).toArray = ls at hl ⊢
  have hl : lv_has ls 2 [(0, .ref (a 0)), (1, .int tt)] := hl
  subst hsz
  have hD := hD0.self (sz := s.heap.size)
  generalize hAe : va_A (mW k a r) s.heap.size = A at hD ⊢
  have hA : ∀ q : Nat, s.heap.size ≤ q → A q := fun q h => by rw [← hAe]; exact Or.inr h
  have hS : va_S A s.heap s.heap [] := va_S.rf
  have hDk := hD
  cases hq : ix 8 tt with
  | none =>
    refine lv_aload_n hx hb d_M_back_0 rfl (lv_at hl 0 rfl) ?_
    refine lv_iconst (v := 0) hx hb d_M_back_1 (by decide) ?_
    refine va_put (D := (dC, dI)) (ci := 2) (v := .int 0) (ty := .int) (C := R_M) (T := F_M) (N := 11) hx hb hB in_M tf_M ty_M nm_M hown hK hP hD hS 0 rfl rfl 0 (by decide) (hB _ bw_355) (fun _ h9 => h9) rfl (by decide +kernel) rfl rfl (Nat.le_of_ble_eq_true rfl) d_M_back_2 (fun H locs hP hD hS => ?_)
    have hP : va_P (dC, dI) vwC (mW k a (0, zC r, zW r, zG r, zP r, zS r, zH r, zR r, zO r, zD r, zL r)) H := hP
    have hD : va_D A (mW k a (0, zC r, zW r, zG r, zP r, zS r, zH r, zR r, zO r, zD r, zL r)) := hD
    refine lv_aload_n hx hb d_M_back_5 rfl (lv_at hl 0 rfl) ?_
    refine lv_iload_n hx hb d_M_back_6 rfl (lv_at hl 1 rfl) ?_
    refine vp_callSi (va_Run.run (va_runS (As := [.int tt]) (rest := [.ref (a 0)]) ⟨hx, hb, hml, hown, hB⟩ (m_M_isOne l tt) (va_cwS 1 hB (BIG_SS bw_387 bw_388 bw_18 bw_389) rfl rfl rfl ⟨by decide, by decide, by decide +kernel⟩ ⟨Nat.le_of_ble_eq_true rfl, Nat.le_of_ble_eq_true rfl⟩) preEq rfl rfl hl.1 rfl (lv_room (Nat.le_of_ble_eq_true rfl)) d_M_back_7 ⟨Nat.zero_le _, Nat.zero_le _⟩)) (fun r7 hr7 => ?_)
    refine W.eq (g2 := F0 m 10 ls [.int (bI false), .ref (a 0)]) (by rw [hr7, hq]; rfl) ?_
    refine lv_if_ne hx hb d_M_back_10 rfl (fun h9 => absurd h9 (by decide)) (fun _ => ?_)
    refine lv_iconst (v := bI true) hx hb d_M_back_13 (by decide) ?_
    refine lv_goto hx hb d_M_back_14 rfl ?_
    refine lv_iconst (v := 1) hx hb d_M_back_18 (by decide) ?_
    have hFc := va_free (wc := mW k a (0, zC r, zW r, zG r, zP r, zS r, zH r, zR r, zO r, zD r, zL r)) hD hS hA [0, 1, 2, 3, 4, 5, 6, 7, 8] rfl
    refine va_calli (va_runV (As := [.int (bI true), .int 1]) (rest := []) ⟨hx, hb, hml, hown, hB⟩ (m_M_fails_t l dC dI k a _ (0, zC r, zW r, zG r, zP r, zS r, zH r, zR r, zO r, zD r, zL r) 1 rfl (by decide)) (cwV 2 hB (BIG_V bw_394 bw_395 bw_10 bw_18 bw_396) rfl rfl rfl ⟨rfl, by decide, by decide, by decide +kernel⟩ ⟨Nat.le_of_ble_eq_true rfl, Nat.le_of_ble_eq_true rfl⟩) (mPc_pre _ hP hK hD) rfl rfl hl.1 rfl (lv_room (Nat.le_of_ble_eq_true rfl)) d_M_back_19 ⟨Nat.zero_le _, Nat.zero_le _⟩) hS (fun q _ h => hFc q h) hFc (fun r7 u t H1 locs ht hvm hw hB1 hz1 hk1 hS => ?_)
    obtain ⟨hw1, hw2⟩ := hw
    subst hw1
    subst hw2
    have hP : va_P (dC, dI) vwC (mW k a (zErr (0, zC r, zW r, zG r, zP r, zS r, zH r, zR r, zO r, zD r, zL r) 1)) H1 := by rw [← ht]; exact hB1
    have hD : va_D A (mW k a (zErr (0, zC r, zW r, zG r, zP r, zS r, zH r, zR r, zO r, zD r, zL r) 1)) := mW_D hDk
    clear hFc hB1 hk1 hz1 ht hvm
    generalize H1 = H at hP hS ⊢
    have hP : va_P (dC, dI) vwC (mW k a (1, zC r, zW r, zG r, zP r, zS r, zH r, zR r, zO r, zD r, zL r)) H := hP
    have hD : va_D A (mW k a (1, zC r, zW r, zG r, zP r, zS r, zH r, zR r, zO r, zD r, zL r)) := hD
    refine lv_if_ne hx hb d_M_back_22 rfl (fun _ => ?_) (fun h9 => absurd h9 (by decide))
    exact W.vret hx hb hr (fun t ht hW => ⟨⟨(1, zC r, zW r, zG r, zP r, zS r, zH r, zR r, zO r, zD r, zL r), rfl, by unfold zBack; rw [hq]; first | done | rfl, by show va_P (dC, dI) vwC _ t.heap; rw [ht]; exact hP⟩, hS.F ht⟩) hS.2.2 d_M_back_70
  | some j =>
    obtain ⟨hj, htj⟩ := ix_some (by decide) hq
    subst htj
    cases ho : zO r j with
    | false =>
      refine lv_aload_n hx hb d_M_back_0 rfl (lv_at hl 0 rfl) ?_
      refine lv_iconst (v := 0) hx hb d_M_back_1 (by decide) ?_
      refine va_put (D := (dC, dI)) (ci := 2) (v := .int 0) (ty := .int) (C := R_M) (T := F_M) (N := 11) hx hb hB in_M tf_M ty_M nm_M hown hK hP hD hS 0 rfl rfl 0 (by decide) (hB _ bw_355) (fun _ h9 => h9) rfl (by decide +kernel) rfl rfl (Nat.le_of_ble_eq_true rfl) d_M_back_2 (fun H locs hP hD hS => ?_)
      have hP : va_P (dC, dI) vwC (mW k a (0, zC r, zW r, zG r, zP r, zS r, zH r, zR r, zO r, zD r, zL r)) H := hP
      have hD : va_D A (mW k a (0, zC r, zW r, zG r, zP r, zS r, zH r, zR r, zO r, zD r, zL r)) := hD
      refine lv_aload_n hx hb d_M_back_5 rfl (lv_at hl 0 rfl) ?_
      refine lv_iload_n hx hb d_M_back_6 rfl (lv_at hl 1 rfl) ?_
      refine vp_callSi (va_Run.run (va_runS (As := [.int (nI j)]) (rest := [.ref (a 0)]) ⟨hx, hb, hml, hown, hB⟩ (m_M_isOne l (nI j)) (va_cwS 1 hB (BIG_SS bw_387 bw_388 bw_18 bw_389) rfl rfl rfl ⟨by decide, by decide, by decide +kernel⟩ ⟨Nat.le_of_ble_eq_true rfl, Nat.le_of_ble_eq_true rfl⟩) preEq rfl rfl hl.1 rfl (lv_room (Nat.le_of_ble_eq_true rfl)) d_M_back_7 ⟨Nat.zero_le _, Nat.zero_le _⟩)) (fun r7 hr7 => ?_)
      refine W.eq (g2 := F0 m 10 ls [.int (bI true), .ref (a 0)]) (by rw [hr7, hq]; rfl) ?_
      refine lv_if_ne hx hb d_M_back_10 rfl (fun _ => ?_) (fun h9 => absurd h9 (by decide))
      refine lv_iconst (v := bI false) hx hb d_M_back_17 (by decide) ?_
      refine lv_iconst (v := 1) hx hb d_M_back_18 (by decide) ?_
      have hFc := va_free (wc := mW k a (0, zC r, zW r, zG r, zP r, zS r, zH r, zR r, zO r, zD r, zL r)) hD hS hA [0, 1, 2, 3, 4, 5, 6, 7, 8] rfl
      refine va_calli (va_runV (As := [.int (bI false), .int 1]) (rest := []) ⟨hx, hb, hml, hown, hB⟩ (m_M_fails_f l dC dI k a _ (0, zC r, zW r, zG r, zP r, zS r, zH r, zR r, zO r, zD r, zL r) 1 rfl) (cwV 2 hB (BIG_V bw_394 bw_395 bw_10 bw_18 bw_396) rfl rfl rfl ⟨rfl, by decide, by decide, by decide +kernel⟩ ⟨Nat.le_of_ble_eq_true rfl, Nat.le_of_ble_eq_true rfl⟩) (mPc_pre _ hP hK hD) rfl rfl hl.1 rfl (lv_room (Nat.le_of_ble_eq_true rfl)) d_M_back_19 ⟨Nat.zero_le _, Nat.zero_le _⟩) hS (fun q _ h => hFc q h) hFc (fun r7 u t H1 locs ht hvm hw hB1 hz1 hk1 hS => ?_)
      obtain ⟨hw1, hw2⟩ := hw
      subst hw1
      subst hw2
      have hP : va_P (dC, dI) vwC (mW k a (0, zC r, zW r, zG r, zP r, zS r, zH r, zR r, zO r, zD r, zL r)) H1 := by rw [← ht]; exact hB1
      have hD : va_D A (mW k a (0, zC r, zW r, zG r, zP r, zS r, zH r, zR r, zO r, zD r, zL r)) := mW_D hDk
      clear hFc hB1 hk1 hz1 ht hvm
      generalize H1 = H at hP hS ⊢
      refine lv_if_ne hx hb d_M_back_22 rfl (fun h9 => absurd h9 (by decide)) (fun _ => ?_)
      refine lv_aload_n hx hb d_M_back_25 rfl (lv_at hl 0 rfl) ?_
      refine lv_aload_n hx hb d_M_back_26 rfl (lv_at hl 0 rfl) ?_
      refine va_get (D := (dC, dI)) (ci := 2) (v := .ref (a 8)) (C := R_M) (T := F_M) (N := 11) hx hb hB in_M hown hK hP 0 rfl rfl 8 (by decide) (hB _ bw_363) (fun _ h9 => h9) rfl d_M_back_27 ?_
      refine lv_iload_n hx hb d_M_back_30 rfl (lv_at hl 1 rfl) ?_
      refine va_zald hx hb hK hP 8 4 rfl rfl (pk_in j 8 (by omega)) d_M_back_31 ?_
      refine W.eq (g2 := F0 m 32 ls [.int (bI (zO r j)), .ref (a 0)]) (by rw [cl_nI (by omega)]) ?_
      refine W.eq (g2 := F0 m 32 ls [.int (bI false), .ref (a 0)]) (by rw [ho]) ?_
      refine lv_if_ne hx hb d_M_back_32 rfl (fun h9 => absurd h9 (by decide)) (fun _ => ?_)
      refine lv_iconst (v := bI true) hx hb d_M_back_35 (by decide) ?_
      refine lv_goto hx hb d_M_back_36 rfl ?_
      refine lv_iconst (v := 2) hx hb d_M_back_40 (by decide) ?_
      have hFc := va_free (wc := mW k a (0, zC r, zW r, zG r, zP r, zS r, zH r, zR r, zO r, zD r, zL r)) hD hS hA [0, 1, 2, 3, 4, 5, 6, 7, 8] rfl
      refine va_calli (va_runV (As := [.int (bI true), .int 2]) (rest := []) ⟨hx, hb, hml, hown, hB⟩ (m_M_fails_t l dC dI k a _ (0, zC r, zW r, zG r, zP r, zS r, zH r, zR r, zO r, zD r, zL r) 2 rfl (by decide)) (cwV 2 hB (BIG_V bw_394 bw_395 bw_10 bw_18 bw_396) rfl rfl rfl ⟨rfl, by decide, by decide, by decide +kernel⟩ ⟨Nat.le_of_ble_eq_true rfl, Nat.le_of_ble_eq_true rfl⟩) (mPc_pre _ hP hK hD) rfl rfl hl.1 rfl (lv_room (Nat.le_of_ble_eq_true rfl)) d_M_back_41 ⟨Nat.zero_le _, Nat.zero_le _⟩) hS (fun q _ h => hFc q h) hFc (fun r7 u t H1 locs ht hvm hw hB1 hz1 hk1 hS => ?_)
      obtain ⟨hw1, hw2⟩ := hw
      subst hw1
      subst hw2
      have hP : va_P (dC, dI) vwC (mW k a (zErr (0, zC r, zW r, zG r, zP r, zS r, zH r, zR r, zO r, zD r, zL r) 2)) H1 := by rw [← ht]; exact hB1
      have hD : va_D A (mW k a (zErr (0, zC r, zW r, zG r, zP r, zS r, zH r, zR r, zO r, zD r, zL r) 2)) := mW_D hDk
      clear hFc hB1 hk1 hz1 ht hvm
      generalize H1 = H at hP hS ⊢
      have hP : va_P (dC, dI) vwC (mW k a (2, zC r, zW r, zG r, zP r, zS r, zH r, zR r, zO r, zD r, zL r)) H := hP
      have hD : va_D A (mW k a (2, zC r, zW r, zG r, zP r, zS r, zH r, zR r, zO r, zD r, zL r)) := hD
      refine lv_if_ne hx hb d_M_back_44 rfl (fun _ => ?_) (fun h9 => absurd h9 (by decide))
      exact W.vret hx hb hr (fun t ht hW => ⟨⟨(2, zC r, zW r, zG r, zP r, zS r, zH r, zR r, zO r, zD r, zL r), rfl, by unfold zBack; rw [hq]; dsimp only; rw [if_pos ho]; first | done | rfl, by show va_P (dC, dI) vwC _ t.heap; rw [ht]; exact hP⟩, hS.F ht⟩) hS.2.2 d_M_back_70
    | true =>
      obtain ⟨hp1, hp5⟩ := hok j hj ho
      by_cases h1 : zP r j = 1
      · have h2 : nI (zP r j) = nI 1 := by rw [h1]
        refine lv_aload_n hx hb d_M_back_0 rfl (lv_at hl 0 rfl) ?_
        refine lv_iconst (v := 0) hx hb d_M_back_1 (by decide) ?_
        refine va_put (D := (dC, dI)) (ci := 2) (v := .int 0) (ty := .int) (C := R_M) (T := F_M) (N := 11) hx hb hB in_M tf_M ty_M nm_M hown hK hP hD hS 0 rfl rfl 0 (by decide) (hB _ bw_355) (fun _ h9 => h9) rfl (by decide +kernel) rfl rfl (Nat.le_of_ble_eq_true rfl) d_M_back_2 (fun H locs hP hD hS => ?_)
        have hP : va_P (dC, dI) vwC (mW k a (0, zC r, zW r, zG r, zP r, zS r, zH r, zR r, zO r, zD r, zL r)) H := hP
        have hD : va_D A (mW k a (0, zC r, zW r, zG r, zP r, zS r, zH r, zR r, zO r, zD r, zL r)) := hD
        refine lv_aload_n hx hb d_M_back_5 rfl (lv_at hl 0 rfl) ?_
        refine lv_iload_n hx hb d_M_back_6 rfl (lv_at hl 1 rfl) ?_
        refine vp_callSi (va_Run.run (va_runS (As := [.int (nI j)]) (rest := [.ref (a 0)]) ⟨hx, hb, hml, hown, hB⟩ (m_M_isOne l (nI j)) (va_cwS 1 hB (BIG_SS bw_387 bw_388 bw_18 bw_389) rfl rfl rfl ⟨by decide, by decide, by decide +kernel⟩ ⟨Nat.le_of_ble_eq_true rfl, Nat.le_of_ble_eq_true rfl⟩) preEq rfl rfl hl.1 rfl (lv_room (Nat.le_of_ble_eq_true rfl)) d_M_back_7 ⟨Nat.zero_le _, Nat.zero_le _⟩)) (fun r7 hr7 => ?_)
        refine W.eq (g2 := F0 m 10 ls [.int (bI true), .ref (a 0)]) (by rw [hr7, hq]; rfl) ?_
        refine lv_if_ne hx hb d_M_back_10 rfl (fun _ => ?_) (fun h9 => absurd h9 (by decide))
        refine lv_iconst (v := bI false) hx hb d_M_back_17 (by decide) ?_
        refine lv_iconst (v := 1) hx hb d_M_back_18 (by decide) ?_
        have hFc := va_free (wc := mW k a (0, zC r, zW r, zG r, zP r, zS r, zH r, zR r, zO r, zD r, zL r)) hD hS hA [0, 1, 2, 3, 4, 5, 6, 7, 8] rfl
        refine va_calli (va_runV (As := [.int (bI false), .int 1]) (rest := []) ⟨hx, hb, hml, hown, hB⟩ (m_M_fails_f l dC dI k a _ (0, zC r, zW r, zG r, zP r, zS r, zH r, zR r, zO r, zD r, zL r) 1 rfl) (cwV 2 hB (BIG_V bw_394 bw_395 bw_10 bw_18 bw_396) rfl rfl rfl ⟨rfl, by decide, by decide, by decide +kernel⟩ ⟨Nat.le_of_ble_eq_true rfl, Nat.le_of_ble_eq_true rfl⟩) (mPc_pre _ hP hK hD) rfl rfl hl.1 rfl (lv_room (Nat.le_of_ble_eq_true rfl)) d_M_back_19 ⟨Nat.zero_le _, Nat.zero_le _⟩) hS (fun q _ h => hFc q h) hFc (fun r7 u t H1 locs ht hvm hw hB1 hz1 hk1 hS => ?_)
        obtain ⟨hw1, hw2⟩ := hw
        subst hw1
        subst hw2
        have hP : va_P (dC, dI) vwC (mW k a (0, zC r, zW r, zG r, zP r, zS r, zH r, zR r, zO r, zD r, zL r)) H1 := by rw [← ht]; exact hB1
        have hD : va_D A (mW k a (0, zC r, zW r, zG r, zP r, zS r, zH r, zR r, zO r, zD r, zL r)) := mW_D hDk
        clear hFc hB1 hk1 hz1 ht hvm
        generalize H1 = H at hP hS ⊢
        refine lv_if_ne hx hb d_M_back_22 rfl (fun h9 => absurd h9 (by decide)) (fun _ => ?_)
        refine lv_aload_n hx hb d_M_back_25 rfl (lv_at hl 0 rfl) ?_
        refine lv_aload_n hx hb d_M_back_26 rfl (lv_at hl 0 rfl) ?_
        refine va_get (D := (dC, dI)) (ci := 2) (v := .ref (a 8)) (C := R_M) (T := F_M) (N := 11) hx hb hB in_M hown hK hP 0 rfl rfl 8 (by decide) (hB _ bw_363) (fun _ h9 => h9) rfl d_M_back_27 ?_
        refine lv_iload_n hx hb d_M_back_30 rfl (lv_at hl 1 rfl) ?_
        refine va_zald hx hb hK hP 8 4 rfl rfl (pk_in j 8 (by omega)) d_M_back_31 ?_
        refine W.eq (g2 := F0 m 32 ls [.int (bI (zO r j)), .ref (a 0)]) (by rw [cl_nI (by omega)]) ?_
        refine W.eq (g2 := F0 m 32 ls [.int (bI true), .ref (a 0)]) (by rw [ho]) ?_
        refine lv_if_ne hx hb d_M_back_32 rfl (fun _ => ?_) (fun h9 => absurd h9 (by decide))
        refine lv_iconst (v := bI false) hx hb d_M_back_39 (by decide) ?_
        refine lv_iconst (v := 2) hx hb d_M_back_40 (by decide) ?_
        have hFc := va_free (wc := mW k a (0, zC r, zW r, zG r, zP r, zS r, zH r, zR r, zO r, zD r, zL r)) hD hS hA [0, 1, 2, 3, 4, 5, 6, 7, 8] rfl
        refine va_calli (va_runV (As := [.int (bI false), .int 2]) (rest := []) ⟨hx, hb, hml, hown, hB⟩ (m_M_fails_f l dC dI k a _ (0, zC r, zW r, zG r, zP r, zS r, zH r, zR r, zO r, zD r, zL r) 2 rfl) (cwV 2 hB (BIG_V bw_394 bw_395 bw_10 bw_18 bw_396) rfl rfl rfl ⟨rfl, by decide, by decide, by decide +kernel⟩ ⟨Nat.le_of_ble_eq_true rfl, Nat.le_of_ble_eq_true rfl⟩) (mPc_pre _ hP hK hD) rfl rfl hl.1 rfl (lv_room (Nat.le_of_ble_eq_true rfl)) d_M_back_41 ⟨Nat.zero_le _, Nat.zero_le _⟩) hS (fun q _ h => hFc q h) hFc (fun r7 u t H1 locs ht hvm hw hB1 hz1 hk1 hS => ?_)
        obtain ⟨hw1, hw2⟩ := hw
        subst hw1
        subst hw2
        have hP : va_P (dC, dI) vwC (mW k a (0, zC r, zW r, zG r, zP r, zS r, zH r, zR r, zO r, zD r, zL r)) H1 := by rw [← ht]; exact hB1
        have hD : va_D A (mW k a (0, zC r, zW r, zG r, zP r, zS r, zH r, zR r, zO r, zD r, zL r)) := mW_D hDk
        clear hFc hB1 hk1 hz1 ht hvm
        generalize H1 = H at hP hS ⊢
        refine lv_if_ne hx hb d_M_back_44 rfl (fun h9 => absurd h9 (by decide)) (fun _ => ?_)
        refine lv_aload_n hx hb d_M_back_47 rfl (lv_at hl 0 rfl) ?_
        refine lv_aload_n hx hb d_M_back_48 rfl (lv_at hl 0 rfl) ?_
        refine va_get (D := (dC, dI)) (ci := 2) (v := .ref (a 4)) (C := R_M) (T := F_M) (N := 11) hx hb hB in_M hown hK hP 0 rfl rfl 4 (by decide) (hB _ bw_359) (fun _ h9 => h9) rfl d_M_back_49 ?_
        refine lv_iload_n hx hb d_M_back_52 rfl (lv_at hl 1 rfl) ?_
        refine va_iald hx hb hK hP 4 0 rfl rfl (pk_in j 8 (by omega)) d_M_back_53 ?_
        refine W.eq (g2 := F0 m 54 ls [.int (nI (zP r j)), .ref (a 0)]) (by rw [cl_nI (by omega)]) ?_
        refine lv_iconst (v := nI 1) hx hb d_M_back_54 (by decide) ?_
        refine lv_icmp_ne hx hb d_M_back_55 rfl (fun h9 => absurd h9 (fun q => q h2)) (fun _ => ?_)
        refine lv_iconst (v := bI true) hx hb d_M_back_58 (by decide) ?_
        refine lv_goto hx hb d_M_back_59 rfl ?_
        refine lv_iconst (v := 3) hx hb d_M_back_63 (by decide) ?_
        have hFc := va_free (wc := mW k a (0, zC r, zW r, zG r, zP r, zS r, zH r, zR r, zO r, zD r, zL r)) hD hS hA [0, 1, 2, 3, 4, 5, 6, 7, 8] rfl
        refine va_calli (va_runV (As := [.int (bI true), .int 3]) (rest := []) ⟨hx, hb, hml, hown, hB⟩ (m_M_fails_t l dC dI k a _ (0, zC r, zW r, zG r, zP r, zS r, zH r, zR r, zO r, zD r, zL r) 3 rfl (by decide)) (cwV 2 hB (BIG_V bw_394 bw_395 bw_10 bw_18 bw_396) rfl rfl rfl ⟨rfl, by decide, by decide, by decide +kernel⟩ ⟨Nat.le_of_ble_eq_true rfl, Nat.le_of_ble_eq_true rfl⟩) (mPc_pre _ hP hK hD) rfl rfl hl.1 rfl (lv_room (Nat.le_of_ble_eq_true rfl)) d_M_back_64 ⟨Nat.zero_le _, Nat.zero_le _⟩) hS (fun q _ h => hFc q h) hFc (fun r7 u t H1 locs ht hvm hw hB1 hz1 hk1 hS => ?_)
        obtain ⟨hw1, hw2⟩ := hw
        subst hw1
        subst hw2
        have hP : va_P (dC, dI) vwC (mW k a (zErr (0, zC r, zW r, zG r, zP r, zS r, zH r, zR r, zO r, zD r, zL r) 3)) H1 := by rw [← ht]; exact hB1
        have hD : va_D A (mW k a (zErr (0, zC r, zW r, zG r, zP r, zS r, zH r, zR r, zO r, zD r, zL r) 3)) := mW_D hDk
        clear hFc hB1 hk1 hz1 ht hvm
        generalize H1 = H at hP hS ⊢
        have hP : va_P (dC, dI) vwC (mW k a (3, zC r, zW r, zG r, zP r, zS r, zH r, zR r, zO r, zD r, zL r)) H := hP
        have hD : va_D A (mW k a (3, zC r, zW r, zG r, zP r, zS r, zH r, zR r, zO r, zD r, zL r)) := hD
        refine lv_if_eq hx hb d_M_back_67 rfl (fun h9 => absurd h9 (by decide)) (fun _ => ?_)
        exact W.vret hx hb hr (fun t ht hW => ⟨⟨(3, zC r, zW r, zG r, zP r, zS r, zH r, zR r, zO r, zD r, zL r), rfl, by unfold zBack; rw [hq]; dsimp only; rw [if_neg (by rw [ho]; decide)]; rw [if_pos h1]; first | done | rfl, by show va_P (dC, dI) vwC _ t.heap; rw [ht]; exact hP⟩, hS.F ht⟩) hS.2.2 d_M_back_70
      · have h2 : ¬ nI (zP r j) = nI 1 := fun q => h1 ((nI_eq (by omega) (by omega)).mp q)
        refine lv_aload_n hx hb d_M_back_0 rfl (lv_at hl 0 rfl) ?_
        refine lv_iconst (v := 0) hx hb d_M_back_1 (by decide) ?_
        refine va_put (D := (dC, dI)) (ci := 2) (v := .int 0) (ty := .int) (C := R_M) (T := F_M) (N := 11) hx hb hB in_M tf_M ty_M nm_M hown hK hP hD hS 0 rfl rfl 0 (by decide) (hB _ bw_355) (fun _ h9 => h9) rfl (by decide +kernel) rfl rfl (Nat.le_of_ble_eq_true rfl) d_M_back_2 (fun H locs hP hD hS => ?_)
        have hP : va_P (dC, dI) vwC (mW k a (0, zC r, zW r, zG r, zP r, zS r, zH r, zR r, zO r, zD r, zL r)) H := hP
        have hD : va_D A (mW k a (0, zC r, zW r, zG r, zP r, zS r, zH r, zR r, zO r, zD r, zL r)) := hD
        refine lv_aload_n hx hb d_M_back_5 rfl (lv_at hl 0 rfl) ?_
        refine lv_iload_n hx hb d_M_back_6 rfl (lv_at hl 1 rfl) ?_
        refine vp_callSi (va_Run.run (va_runS (As := [.int (nI j)]) (rest := [.ref (a 0)]) ⟨hx, hb, hml, hown, hB⟩ (m_M_isOne l (nI j)) (va_cwS 1 hB (BIG_SS bw_387 bw_388 bw_18 bw_389) rfl rfl rfl ⟨by decide, by decide, by decide +kernel⟩ ⟨Nat.le_of_ble_eq_true rfl, Nat.le_of_ble_eq_true rfl⟩) preEq rfl rfl hl.1 rfl (lv_room (Nat.le_of_ble_eq_true rfl)) d_M_back_7 ⟨Nat.zero_le _, Nat.zero_le _⟩)) (fun r7 hr7 => ?_)
        refine W.eq (g2 := F0 m 10 ls [.int (bI true), .ref (a 0)]) (by rw [hr7, hq]; rfl) ?_
        refine lv_if_ne hx hb d_M_back_10 rfl (fun _ => ?_) (fun h9 => absurd h9 (by decide))
        refine lv_iconst (v := bI false) hx hb d_M_back_17 (by decide) ?_
        refine lv_iconst (v := 1) hx hb d_M_back_18 (by decide) ?_
        have hFc := va_free (wc := mW k a (0, zC r, zW r, zG r, zP r, zS r, zH r, zR r, zO r, zD r, zL r)) hD hS hA [0, 1, 2, 3, 4, 5, 6, 7, 8] rfl
        refine va_calli (va_runV (As := [.int (bI false), .int 1]) (rest := []) ⟨hx, hb, hml, hown, hB⟩ (m_M_fails_f l dC dI k a _ (0, zC r, zW r, zG r, zP r, zS r, zH r, zR r, zO r, zD r, zL r) 1 rfl) (cwV 2 hB (BIG_V bw_394 bw_395 bw_10 bw_18 bw_396) rfl rfl rfl ⟨rfl, by decide, by decide, by decide +kernel⟩ ⟨Nat.le_of_ble_eq_true rfl, Nat.le_of_ble_eq_true rfl⟩) (mPc_pre _ hP hK hD) rfl rfl hl.1 rfl (lv_room (Nat.le_of_ble_eq_true rfl)) d_M_back_19 ⟨Nat.zero_le _, Nat.zero_le _⟩) hS (fun q _ h => hFc q h) hFc (fun r7 u t H1 locs ht hvm hw hB1 hz1 hk1 hS => ?_)
        obtain ⟨hw1, hw2⟩ := hw
        subst hw1
        subst hw2
        have hP : va_P (dC, dI) vwC (mW k a (0, zC r, zW r, zG r, zP r, zS r, zH r, zR r, zO r, zD r, zL r)) H1 := by rw [← ht]; exact hB1
        have hD : va_D A (mW k a (0, zC r, zW r, zG r, zP r, zS r, zH r, zR r, zO r, zD r, zL r)) := mW_D hDk
        clear hFc hB1 hk1 hz1 ht hvm
        generalize H1 = H at hP hS ⊢
        refine lv_if_ne hx hb d_M_back_22 rfl (fun h9 => absurd h9 (by decide)) (fun _ => ?_)
        refine lv_aload_n hx hb d_M_back_25 rfl (lv_at hl 0 rfl) ?_
        refine lv_aload_n hx hb d_M_back_26 rfl (lv_at hl 0 rfl) ?_
        refine va_get (D := (dC, dI)) (ci := 2) (v := .ref (a 8)) (C := R_M) (T := F_M) (N := 11) hx hb hB in_M hown hK hP 0 rfl rfl 8 (by decide) (hB _ bw_363) (fun _ h9 => h9) rfl d_M_back_27 ?_
        refine lv_iload_n hx hb d_M_back_30 rfl (lv_at hl 1 rfl) ?_
        refine va_zald hx hb hK hP 8 4 rfl rfl (pk_in j 8 (by omega)) d_M_back_31 ?_
        refine W.eq (g2 := F0 m 32 ls [.int (bI (zO r j)), .ref (a 0)]) (by rw [cl_nI (by omega)]) ?_
        refine W.eq (g2 := F0 m 32 ls [.int (bI true), .ref (a 0)]) (by rw [ho]) ?_
        refine lv_if_ne hx hb d_M_back_32 rfl (fun _ => ?_) (fun h9 => absurd h9 (by decide))
        refine lv_iconst (v := bI false) hx hb d_M_back_39 (by decide) ?_
        refine lv_iconst (v := 2) hx hb d_M_back_40 (by decide) ?_
        have hFc := va_free (wc := mW k a (0, zC r, zW r, zG r, zP r, zS r, zH r, zR r, zO r, zD r, zL r)) hD hS hA [0, 1, 2, 3, 4, 5, 6, 7, 8] rfl
        refine va_calli (va_runV (As := [.int (bI false), .int 2]) (rest := []) ⟨hx, hb, hml, hown, hB⟩ (m_M_fails_f l dC dI k a _ (0, zC r, zW r, zG r, zP r, zS r, zH r, zR r, zO r, zD r, zL r) 2 rfl) (cwV 2 hB (BIG_V bw_394 bw_395 bw_10 bw_18 bw_396) rfl rfl rfl ⟨rfl, by decide, by decide, by decide +kernel⟩ ⟨Nat.le_of_ble_eq_true rfl, Nat.le_of_ble_eq_true rfl⟩) (mPc_pre _ hP hK hD) rfl rfl hl.1 rfl (lv_room (Nat.le_of_ble_eq_true rfl)) d_M_back_41 ⟨Nat.zero_le _, Nat.zero_le _⟩) hS (fun q _ h => hFc q h) hFc (fun r7 u t H1 locs ht hvm hw hB1 hz1 hk1 hS => ?_)
        obtain ⟨hw1, hw2⟩ := hw
        subst hw1
        subst hw2
        have hP : va_P (dC, dI) vwC (mW k a (0, zC r, zW r, zG r, zP r, zS r, zH r, zR r, zO r, zD r, zL r)) H1 := by rw [← ht]; exact hB1
        have hD : va_D A (mW k a (0, zC r, zW r, zG r, zP r, zS r, zH r, zR r, zO r, zD r, zL r)) := mW_D hDk
        clear hFc hB1 hk1 hz1 ht hvm
        generalize H1 = H at hP hS ⊢
        refine lv_if_ne hx hb d_M_back_44 rfl (fun h9 => absurd h9 (by decide)) (fun _ => ?_)
        refine lv_aload_n hx hb d_M_back_47 rfl (lv_at hl 0 rfl) ?_
        refine lv_aload_n hx hb d_M_back_48 rfl (lv_at hl 0 rfl) ?_
        refine va_get (D := (dC, dI)) (ci := 2) (v := .ref (a 4)) (C := R_M) (T := F_M) (N := 11) hx hb hB in_M hown hK hP 0 rfl rfl 4 (by decide) (hB _ bw_359) (fun _ h9 => h9) rfl d_M_back_49 ?_
        refine lv_iload_n hx hb d_M_back_52 rfl (lv_at hl 1 rfl) ?_
        refine va_iald hx hb hK hP 4 0 rfl rfl (pk_in j 8 (by omega)) d_M_back_53 ?_
        refine W.eq (g2 := F0 m 54 ls [.int (nI (zP r j)), .ref (a 0)]) (by rw [cl_nI (by omega)]) ?_
        refine lv_iconst (v := nI 1) hx hb d_M_back_54 (by decide) ?_
        refine lv_icmp_ne hx hb d_M_back_55 rfl (fun _ => ?_) (fun h9 => absurd h9 (h2))
        refine lv_iconst (v := bI false) hx hb d_M_back_62 (by decide) ?_
        refine lv_iconst (v := 3) hx hb d_M_back_63 (by decide) ?_
        have hFc := va_free (wc := mW k a (0, zC r, zW r, zG r, zP r, zS r, zH r, zR r, zO r, zD r, zL r)) hD hS hA [0, 1, 2, 3, 4, 5, 6, 7, 8] rfl
        refine va_calli (va_runV (As := [.int (bI false), .int 3]) (rest := []) ⟨hx, hb, hml, hown, hB⟩ (m_M_fails_f l dC dI k a _ (0, zC r, zW r, zG r, zP r, zS r, zH r, zR r, zO r, zD r, zL r) 3 rfl) (cwV 2 hB (BIG_V bw_394 bw_395 bw_10 bw_18 bw_396) rfl rfl rfl ⟨rfl, by decide, by decide, by decide +kernel⟩ ⟨Nat.le_of_ble_eq_true rfl, Nat.le_of_ble_eq_true rfl⟩) (mPc_pre _ hP hK hD) rfl rfl hl.1 rfl (lv_room (Nat.le_of_ble_eq_true rfl)) d_M_back_64 ⟨Nat.zero_le _, Nat.zero_le _⟩) hS (fun q _ h => hFc q h) hFc (fun r7 u t H1 locs ht hvm hw hB1 hz1 hk1 hS => ?_)
        obtain ⟨hw1, hw2⟩ := hw
        subst hw1
        subst hw2
        have hP : va_P (dC, dI) vwC (mW k a (0, zC r, zW r, zG r, zP r, zS r, zH r, zR r, zO r, zD r, zL r)) H1 := by rw [← ht]; exact hB1
        have hD : va_D A (mW k a (0, zC r, zW r, zG r, zP r, zS r, zH r, zR r, zO r, zD r, zL r)) := mW_D hDk
        clear hFc hB1 hk1 hz1 ht hvm
        generalize H1 = H at hP hS ⊢
        refine lv_if_eq hx hb d_M_back_67 rfl (fun _ => ?_) (fun h9 => absurd (by decide) h9)
        refine lv_aload_n hx hb d_M_back_71 rfl (lv_at hl 0 rfl) ?_
        refine va_get (D := (dC, dI)) (ci := 2) (v := .ref (a 4)) (C := R_M) (T := F_M) (N := 11) hx hb hB in_M hown hK hP 0 rfl rfl 4 (by decide) (hB _ bw_359) (fun _ h9 => h9) rfl d_M_back_72 ?_
        refine lv_iload_n hx hb d_M_back_75 rfl (lv_at hl 1 rfl) ?_
        refine lv_dup2_11 hx hb d_M_back_76 rfl rfl ?_
        refine va_iald hx hb hK hP 4 0 rfl rfl (pk_in j 8 (by omega)) d_M_back_77 ?_
        refine W.eq (g2 := F0 m 78 ls [.int (nI (zP r j)), .int (nI j), .ref (a 4)]) (by rw [cl_nI (by omega)]) ?_
        refine lv_iconst (v := nI 1) hx hb d_M_back_78 (by decide) ?_
        refine lv_isub hx hb d_M_back_79 ?_
        refine W.eq (g2 := F0 m 80 ls [.int (nI ((zP r j) - 1)), .int (nI j), .ref (a 4)]) (by rw [pk_sub (by omega)]) ?_
        refine va_iast hx hb hK hP hD hS 4 0 rfl rfl (pk_in j 8 (by omega)) d_M_back_80 (fun H locs hP hD hS => ?_)
        rw [cl_nI (by omega), nI_upd] at hP
        have hP : va_P (dC, dI) vwC (mW k a (0, zC r, zW r, zG r, va_up (zP r) j ((zP r j) - 1), zS r, zH r, zR r, zO r, zD r, zL r)) H := hP
        have hD : va_D A (mW k a (0, zC r, zW r, zG r, va_up (zP r) j ((zP r j) - 1), zS r, zH r, zR r, zO r, zD r, zL r)) := mW_D hDk
        exact W.vret hx hb hr (fun t ht hW => ⟨⟨(0, zC r, zW r, zG r, va_up (zP r) j ((zP r j) - 1), zS r, zH r, zR r, zO r, zD r, zL r), rfl, by unfold zBack; rw [hq]; dsimp only; rw [if_neg (by rw [ho]; decide)]; rw [if_neg h1]; first | done | rfl, by show va_P (dC, dI) vwC _ t.heap; rw [ht]; exact hP⟩, hS.F ht⟩) hS.2.2 d_M_back_81
set_option maxHeartbeats 4000000 in
set_option maxRecDepth 100000 in
theorem m_M_write (l : Launch) (dC : Nat → ClassId) (dI : Nat → Nat → Nat) (k : Nat → ClassId) (a : Nat → Nat) (sz : Nat) (r : xRS) (tt kk : Int32) (x : Int64) (hok : mOk r) : Met l y_M_write w_M_write (rmx 2 0 0 80) (mPc dC dI k a sz r [.ref (a 0), .int tt, .int kk, .long x]) (va_Qv (fun u => u = zWrite r tt kk x) (mB dC dI k a) (va_A (mW k a r) sz)) 0 0 (va_A (mW k a r) sz) := by
  refine Met.ofW (cc := c_M_write) (maxL := 5) (ret := none) (by decide) rfl ?_
  intro p e s m args below meth c s₁ B hml hv
  obtain ⟨rfl, hsz, hP, hK, hD0⟩ := hv
  have hx := B.exec
  have hb := B.bytes
  have hr := B.returns
  have hts := atoms_spec (ws := w_M_write) B.pre
  have hB : ∀ w ∈ BIG, w.before _ s = true := fun w h => hts w (List.mem_cons_of_mem _ h)
  have hown : s.vm.findClass R_M = some m.cls := findClass_of_methodNamed B.named
  have hlocks := B.notSynchronized
  have hl := lv_entry ([.ref (a 0), .int tt, .int kk, .long x]) (n := 5) (Nat.le_of_ble_eq_true rfl)
  rw [lg_entry_eq]
  generalize (lg_sl ([.ref (a 0), .int tt, .int kk, .long x]) ++ List.replicate (5 - (lg_sl ([.ref (a 0), .int tt, .int kk, .long x])).length) Slot.unset).toArray = ls at hl ⊢
  have hl : lv_has ls 5 [(0, .ref (a 0)), (1, .int tt), (2, .int kk), (3, .long x)] := hl
  subst hsz
  have hD := hD0.self (sz := s.heap.size)
  generalize hAe : va_A (mW k a r) s.heap.size = A at hD ⊢
  have hA : ∀ q : Nat, s.heap.size ≤ q → A q := fun q h => by rw [← hAe]; exact Or.inr h
  have hS : va_S A s.heap s.heap [] := va_S.rf
  have hDk := hD
  cases hq : ix 8 tt with
  | none =>
    refine lv_aload_n hx hb d_M_write_0 rfl (lv_at hl 0 rfl) ?_
    refine lv_iconst (v := 0) hx hb d_M_write_1 (by decide) ?_
    refine va_put (D := (dC, dI)) (ci := 2) (v := .int 0) (ty := .int) (C := R_M) (T := F_M) (N := 11) hx hb hB in_M tf_M ty_M nm_M hown hK hP hD hS 0 rfl rfl 0 (by decide) (hB _ bw_355) (fun _ h9 => h9) rfl (by decide +kernel) rfl rfl (Nat.le_of_ble_eq_true rfl) d_M_write_2 (fun H locs hP hD hS => ?_)
    have hP : va_P (dC, dI) vwC (mW k a (0, zC r, zW r, zG r, zP r, zS r, zH r, zR r, zO r, zD r, zL r)) H := hP
    have hD : va_D A (mW k a (0, zC r, zW r, zG r, zP r, zS r, zH r, zR r, zO r, zD r, zL r)) := hD
    refine lv_aload_n hx hb d_M_write_5 rfl (lv_at hl 0 rfl) ?_
    refine lv_iload_n hx hb d_M_write_6 rfl (lv_at hl 1 rfl) ?_
    refine vp_callSi (va_Run.run (va_runS (As := [.int tt]) (rest := [.ref (a 0)]) ⟨hx, hb, hml, hown, hB⟩ (m_M_isOne l tt) (va_cwS 1 hB (BIG_SS bw_387 bw_388 bw_18 bw_389) rfl rfl rfl ⟨by decide, by decide, by decide +kernel⟩ ⟨Nat.le_of_ble_eq_true rfl, Nat.le_of_ble_eq_true rfl⟩) preEq rfl rfl hl.1 rfl (lv_room (Nat.le_of_ble_eq_true rfl)) d_M_write_7 ⟨Nat.zero_le _, Nat.zero_le _⟩)) (fun r7 hr7 => ?_)
    refine W.eq (g2 := F0 m 10 ls [.int (bI false), .ref (a 0)]) (by rw [hr7, hq]; rfl) ?_
    refine lv_if_ne hx hb d_M_write_10 rfl (fun h9 => absurd h9 (by decide)) (fun _ => ?_)
    refine lv_iconst (v := bI true) hx hb d_M_write_13 (by decide) ?_
    refine lv_goto hx hb d_M_write_14 rfl ?_
    refine lv_iconst (v := 1) hx hb d_M_write_18 (by decide) ?_
    have hFc := va_free (wc := mW k a (0, zC r, zW r, zG r, zP r, zS r, zH r, zR r, zO r, zD r, zL r)) hD hS hA [0, 1, 2, 3, 4, 5, 6, 7, 8] rfl
    refine va_calli (va_runV (As := [.int (bI true), .int 1]) (rest := []) ⟨hx, hb, hml, hown, hB⟩ (m_M_fails_t l dC dI k a _ (0, zC r, zW r, zG r, zP r, zS r, zH r, zR r, zO r, zD r, zL r) 1 rfl (by decide)) (cwV 2 hB (BIG_V bw_394 bw_395 bw_10 bw_18 bw_396) rfl rfl rfl ⟨rfl, by decide, by decide, by decide +kernel⟩ ⟨Nat.le_of_ble_eq_true rfl, Nat.le_of_ble_eq_true rfl⟩) (mPc_pre _ hP hK hD) rfl rfl hl.1 rfl (lv_room (Nat.le_of_ble_eq_true rfl)) d_M_write_19 ⟨Nat.zero_le _, Nat.zero_le _⟩) hS (fun q _ h => hFc q h) hFc (fun r7 u t H1 locs ht hvm hw hB1 hz1 hk1 hS => ?_)
    obtain ⟨hw1, hw2⟩ := hw
    subst hw1
    subst hw2
    have hP : va_P (dC, dI) vwC (mW k a (zErr (0, zC r, zW r, zG r, zP r, zS r, zH r, zR r, zO r, zD r, zL r) 1)) H1 := by rw [← ht]; exact hB1
    have hD : va_D A (mW k a (zErr (0, zC r, zW r, zG r, zP r, zS r, zH r, zR r, zO r, zD r, zL r) 1)) := mW_D hDk
    clear hFc hB1 hk1 hz1 ht hvm
    generalize H1 = H at hP hS ⊢
    have hP : va_P (dC, dI) vwC (mW k a (1, zC r, zW r, zG r, zP r, zS r, zH r, zR r, zO r, zD r, zL r)) H := hP
    have hD : va_D A (mW k a (1, zC r, zW r, zG r, zP r, zS r, zH r, zR r, zO r, zD r, zL r)) := hD
    refine lv_if_ne hx hb d_M_write_22 rfl (fun _ => ?_) (fun h9 => absurd h9 (by decide))
    exact W.vret hx hb hr (fun t ht hW => ⟨⟨(1, zC r, zW r, zG r, zP r, zS r, zH r, zR r, zO r, zD r, zL r), rfl, by unfold zWrite; rw [hq]; first | done | rfl, by show va_P (dC, dI) vwC _ t.heap; rw [ht]; exact hP⟩, hS.F ht⟩) hS.2.2 d_M_write_67
  | some j =>
    obtain ⟨hj, htj⟩ := ix_some (by decide) hq
    subst htj
    cases hy : ix 32 kk with
    | none =>
      refine lv_aload_n hx hb d_M_write_0 rfl (lv_at hl 0 rfl) ?_
      refine lv_iconst (v := 0) hx hb d_M_write_1 (by decide) ?_
      refine va_put (D := (dC, dI)) (ci := 2) (v := .int 0) (ty := .int) (C := R_M) (T := F_M) (N := 11) hx hb hB in_M tf_M ty_M nm_M hown hK hP hD hS 0 rfl rfl 0 (by decide) (hB _ bw_355) (fun _ h9 => h9) rfl (by decide +kernel) rfl rfl (Nat.le_of_ble_eq_true rfl) d_M_write_2 (fun H locs hP hD hS => ?_)
      have hP : va_P (dC, dI) vwC (mW k a (0, zC r, zW r, zG r, zP r, zS r, zH r, zR r, zO r, zD r, zL r)) H := hP
      have hD : va_D A (mW k a (0, zC r, zW r, zG r, zP r, zS r, zH r, zR r, zO r, zD r, zL r)) := hD
      refine lv_aload_n hx hb d_M_write_5 rfl (lv_at hl 0 rfl) ?_
      refine lv_iload_n hx hb d_M_write_6 rfl (lv_at hl 1 rfl) ?_
      refine vp_callSi (va_Run.run (va_runS (As := [.int (nI j)]) (rest := [.ref (a 0)]) ⟨hx, hb, hml, hown, hB⟩ (m_M_isOne l (nI j)) (va_cwS 1 hB (BIG_SS bw_387 bw_388 bw_18 bw_389) rfl rfl rfl ⟨by decide, by decide, by decide +kernel⟩ ⟨Nat.le_of_ble_eq_true rfl, Nat.le_of_ble_eq_true rfl⟩) preEq rfl rfl hl.1 rfl (lv_room (Nat.le_of_ble_eq_true rfl)) d_M_write_7 ⟨Nat.zero_le _, Nat.zero_le _⟩)) (fun r7 hr7 => ?_)
      refine W.eq (g2 := F0 m 10 ls [.int (bI true), .ref (a 0)]) (by rw [hr7, hq]; rfl) ?_
      refine lv_if_ne hx hb d_M_write_10 rfl (fun _ => ?_) (fun h9 => absurd h9 (by decide))
      refine lv_iconst (v := bI false) hx hb d_M_write_17 (by decide) ?_
      refine lv_iconst (v := 1) hx hb d_M_write_18 (by decide) ?_
      have hFc := va_free (wc := mW k a (0, zC r, zW r, zG r, zP r, zS r, zH r, zR r, zO r, zD r, zL r)) hD hS hA [0, 1, 2, 3, 4, 5, 6, 7, 8] rfl
      refine va_calli (va_runV (As := [.int (bI false), .int 1]) (rest := []) ⟨hx, hb, hml, hown, hB⟩ (m_M_fails_f l dC dI k a _ (0, zC r, zW r, zG r, zP r, zS r, zH r, zR r, zO r, zD r, zL r) 1 rfl) (cwV 2 hB (BIG_V bw_394 bw_395 bw_10 bw_18 bw_396) rfl rfl rfl ⟨rfl, by decide, by decide, by decide +kernel⟩ ⟨Nat.le_of_ble_eq_true rfl, Nat.le_of_ble_eq_true rfl⟩) (mPc_pre _ hP hK hD) rfl rfl hl.1 rfl (lv_room (Nat.le_of_ble_eq_true rfl)) d_M_write_19 ⟨Nat.zero_le _, Nat.zero_le _⟩) hS (fun q _ h => hFc q h) hFc (fun r7 u t H1 locs ht hvm hw hB1 hz1 hk1 hS => ?_)
      obtain ⟨hw1, hw2⟩ := hw
      subst hw1
      subst hw2
      have hP : va_P (dC, dI) vwC (mW k a (0, zC r, zW r, zG r, zP r, zS r, zH r, zR r, zO r, zD r, zL r)) H1 := by rw [← ht]; exact hB1
      have hD : va_D A (mW k a (0, zC r, zW r, zG r, zP r, zS r, zH r, zR r, zO r, zD r, zL r)) := mW_D hDk
      clear hFc hB1 hk1 hz1 ht hvm
      generalize H1 = H at hP hS ⊢
      refine lv_if_ne hx hb d_M_write_22 rfl (fun h9 => absurd h9 (by decide)) (fun _ => ?_)
      refine lv_aload_n hx hb d_M_write_25 rfl (lv_at hl 0 rfl) ?_
      refine lv_iload_n hx hb d_M_write_26 rfl (lv_at hl 2 rfl) ?_
      refine vp_callSi (va_Run.run (va_runS (As := [.int kk]) (rest := [.ref (a 0)]) ⟨hx, hb, hml, hown, hB⟩ (m_M_isCell l kk) (va_cwS 1 hB (BIG_SS bw_404 bw_405 bw_18 bw_406) rfl rfl rfl ⟨by decide, by decide, by decide +kernel⟩ ⟨Nat.le_of_ble_eq_true rfl, Nat.le_of_ble_eq_true rfl⟩) preEq rfl rfl hl.1 rfl (lv_room (Nat.le_of_ble_eq_true rfl)) d_M_write_27 ⟨Nat.zero_le _, Nat.zero_le _⟩)) (fun r7 hr7 => ?_)
      refine W.eq (g2 := F0 m 30 ls [.int (bI false), .ref (a 0)]) (by rw [hr7, hy]; rfl) ?_
      refine lv_if_ne hx hb d_M_write_30 rfl (fun h9 => absurd h9 (by decide)) (fun _ => ?_)
      refine lv_iconst (v := bI true) hx hb d_M_write_33 (by decide) ?_
      refine lv_goto hx hb d_M_write_34 rfl ?_
      refine lv_iconst (v := 2) hx hb d_M_write_38 (by decide) ?_
      have hFc := va_free (wc := mW k a (0, zC r, zW r, zG r, zP r, zS r, zH r, zR r, zO r, zD r, zL r)) hD hS hA [0, 1, 2, 3, 4, 5, 6, 7, 8] rfl
      refine va_calli (va_runV (As := [.int (bI true), .int 2]) (rest := []) ⟨hx, hb, hml, hown, hB⟩ (m_M_fails_t l dC dI k a _ (0, zC r, zW r, zG r, zP r, zS r, zH r, zR r, zO r, zD r, zL r) 2 rfl (by decide)) (cwV 2 hB (BIG_V bw_394 bw_395 bw_10 bw_18 bw_396) rfl rfl rfl ⟨rfl, by decide, by decide, by decide +kernel⟩ ⟨Nat.le_of_ble_eq_true rfl, Nat.le_of_ble_eq_true rfl⟩) (mPc_pre _ hP hK hD) rfl rfl hl.1 rfl (lv_room (Nat.le_of_ble_eq_true rfl)) d_M_write_39 ⟨Nat.zero_le _, Nat.zero_le _⟩) hS (fun q _ h => hFc q h) hFc (fun r7 u t H1 locs ht hvm hw hB1 hz1 hk1 hS => ?_)
      obtain ⟨hw1, hw2⟩ := hw
      subst hw1
      subst hw2
      have hP : va_P (dC, dI) vwC (mW k a (zErr (0, zC r, zW r, zG r, zP r, zS r, zH r, zR r, zO r, zD r, zL r) 2)) H1 := by rw [← ht]; exact hB1
      have hD : va_D A (mW k a (zErr (0, zC r, zW r, zG r, zP r, zS r, zH r, zR r, zO r, zD r, zL r) 2)) := mW_D hDk
      clear hFc hB1 hk1 hz1 ht hvm
      generalize H1 = H at hP hS ⊢
      have hP : va_P (dC, dI) vwC (mW k a (2, zC r, zW r, zG r, zP r, zS r, zH r, zR r, zO r, zD r, zL r)) H := hP
      have hD : va_D A (mW k a (2, zC r, zW r, zG r, zP r, zS r, zH r, zR r, zO r, zD r, zL r)) := hD
      refine lv_if_ne hx hb d_M_write_42 rfl (fun _ => ?_) (fun h9 => absurd h9 (by decide))
      exact W.vret hx hb hr (fun t ht hW => ⟨⟨(2, zC r, zW r, zG r, zP r, zS r, zH r, zR r, zO r, zD r, zL r), rfl, by unfold zWrite; rw [hq]; dsimp only; rw [hy]; first | done | rfl, by show va_P (dC, dI) vwC _ t.heap; rw [ht]; exact hP⟩, hS.F ht⟩) hS.2.2 d_M_write_67
    | some i =>
      obtain ⟨hi, hti⟩ := ix_some (by decide) hy
      subst hti
      cases ho : zO r j with
      | false =>
        refine lv_aload_n hx hb d_M_write_0 rfl (lv_at hl 0 rfl) ?_
        refine lv_iconst (v := 0) hx hb d_M_write_1 (by decide) ?_
        refine va_put (D := (dC, dI)) (ci := 2) (v := .int 0) (ty := .int) (C := R_M) (T := F_M) (N := 11) hx hb hB in_M tf_M ty_M nm_M hown hK hP hD hS 0 rfl rfl 0 (by decide) (hB _ bw_355) (fun _ h9 => h9) rfl (by decide +kernel) rfl rfl (Nat.le_of_ble_eq_true rfl) d_M_write_2 (fun H locs hP hD hS => ?_)
        have hP : va_P (dC, dI) vwC (mW k a (0, zC r, zW r, zG r, zP r, zS r, zH r, zR r, zO r, zD r, zL r)) H := hP
        have hD : va_D A (mW k a (0, zC r, zW r, zG r, zP r, zS r, zH r, zR r, zO r, zD r, zL r)) := hD
        refine lv_aload_n hx hb d_M_write_5 rfl (lv_at hl 0 rfl) ?_
        refine lv_iload_n hx hb d_M_write_6 rfl (lv_at hl 1 rfl) ?_
        refine vp_callSi (va_Run.run (va_runS (As := [.int (nI j)]) (rest := [.ref (a 0)]) ⟨hx, hb, hml, hown, hB⟩ (m_M_isOne l (nI j)) (va_cwS 1 hB (BIG_SS bw_387 bw_388 bw_18 bw_389) rfl rfl rfl ⟨by decide, by decide, by decide +kernel⟩ ⟨Nat.le_of_ble_eq_true rfl, Nat.le_of_ble_eq_true rfl⟩) preEq rfl rfl hl.1 rfl (lv_room (Nat.le_of_ble_eq_true rfl)) d_M_write_7 ⟨Nat.zero_le _, Nat.zero_le _⟩)) (fun r7 hr7 => ?_)
        refine W.eq (g2 := F0 m 10 ls [.int (bI true), .ref (a 0)]) (by rw [hr7, hq]; rfl) ?_
        refine lv_if_ne hx hb d_M_write_10 rfl (fun _ => ?_) (fun h9 => absurd h9 (by decide))
        refine lv_iconst (v := bI false) hx hb d_M_write_17 (by decide) ?_
        refine lv_iconst (v := 1) hx hb d_M_write_18 (by decide) ?_
        have hFc := va_free (wc := mW k a (0, zC r, zW r, zG r, zP r, zS r, zH r, zR r, zO r, zD r, zL r)) hD hS hA [0, 1, 2, 3, 4, 5, 6, 7, 8] rfl
        refine va_calli (va_runV (As := [.int (bI false), .int 1]) (rest := []) ⟨hx, hb, hml, hown, hB⟩ (m_M_fails_f l dC dI k a _ (0, zC r, zW r, zG r, zP r, zS r, zH r, zR r, zO r, zD r, zL r) 1 rfl) (cwV 2 hB (BIG_V bw_394 bw_395 bw_10 bw_18 bw_396) rfl rfl rfl ⟨rfl, by decide, by decide, by decide +kernel⟩ ⟨Nat.le_of_ble_eq_true rfl, Nat.le_of_ble_eq_true rfl⟩) (mPc_pre _ hP hK hD) rfl rfl hl.1 rfl (lv_room (Nat.le_of_ble_eq_true rfl)) d_M_write_19 ⟨Nat.zero_le _, Nat.zero_le _⟩) hS (fun q _ h => hFc q h) hFc (fun r7 u t H1 locs ht hvm hw hB1 hz1 hk1 hS => ?_)
        obtain ⟨hw1, hw2⟩ := hw
        subst hw1
        subst hw2
        have hP : va_P (dC, dI) vwC (mW k a (0, zC r, zW r, zG r, zP r, zS r, zH r, zR r, zO r, zD r, zL r)) H1 := by rw [← ht]; exact hB1
        have hD : va_D A (mW k a (0, zC r, zW r, zG r, zP r, zS r, zH r, zR r, zO r, zD r, zL r)) := mW_D hDk
        clear hFc hB1 hk1 hz1 ht hvm
        generalize H1 = H at hP hS ⊢
        refine lv_if_ne hx hb d_M_write_22 rfl (fun h9 => absurd h9 (by decide)) (fun _ => ?_)
        refine lv_aload_n hx hb d_M_write_25 rfl (lv_at hl 0 rfl) ?_
        refine lv_iload_n hx hb d_M_write_26 rfl (lv_at hl 2 rfl) ?_
        refine vp_callSi (va_Run.run (va_runS (As := [.int (nI i)]) (rest := [.ref (a 0)]) ⟨hx, hb, hml, hown, hB⟩ (m_M_isCell l (nI i)) (va_cwS 1 hB (BIG_SS bw_404 bw_405 bw_18 bw_406) rfl rfl rfl ⟨by decide, by decide, by decide +kernel⟩ ⟨Nat.le_of_ble_eq_true rfl, Nat.le_of_ble_eq_true rfl⟩) preEq rfl rfl hl.1 rfl (lv_room (Nat.le_of_ble_eq_true rfl)) d_M_write_27 ⟨Nat.zero_le _, Nat.zero_le _⟩)) (fun r7 hr7 => ?_)
        refine W.eq (g2 := F0 m 30 ls [.int (bI true), .ref (a 0)]) (by rw [hr7, hy]; rfl) ?_
        refine lv_if_ne hx hb d_M_write_30 rfl (fun _ => ?_) (fun h9 => absurd h9 (by decide))
        refine lv_iconst (v := bI false) hx hb d_M_write_37 (by decide) ?_
        refine lv_iconst (v := 2) hx hb d_M_write_38 (by decide) ?_
        have hFc := va_free (wc := mW k a (0, zC r, zW r, zG r, zP r, zS r, zH r, zR r, zO r, zD r, zL r)) hD hS hA [0, 1, 2, 3, 4, 5, 6, 7, 8] rfl
        refine va_calli (va_runV (As := [.int (bI false), .int 2]) (rest := []) ⟨hx, hb, hml, hown, hB⟩ (m_M_fails_f l dC dI k a _ (0, zC r, zW r, zG r, zP r, zS r, zH r, zR r, zO r, zD r, zL r) 2 rfl) (cwV 2 hB (BIG_V bw_394 bw_395 bw_10 bw_18 bw_396) rfl rfl rfl ⟨rfl, by decide, by decide, by decide +kernel⟩ ⟨Nat.le_of_ble_eq_true rfl, Nat.le_of_ble_eq_true rfl⟩) (mPc_pre _ hP hK hD) rfl rfl hl.1 rfl (lv_room (Nat.le_of_ble_eq_true rfl)) d_M_write_39 ⟨Nat.zero_le _, Nat.zero_le _⟩) hS (fun q _ h => hFc q h) hFc (fun r7 u t H1 locs ht hvm hw hB1 hz1 hk1 hS => ?_)
        obtain ⟨hw1, hw2⟩ := hw
        subst hw1
        subst hw2
        have hP : va_P (dC, dI) vwC (mW k a (0, zC r, zW r, zG r, zP r, zS r, zH r, zR r, zO r, zD r, zL r)) H1 := by rw [← ht]; exact hB1
        have hD : va_D A (mW k a (0, zC r, zW r, zG r, zP r, zS r, zH r, zR r, zO r, zD r, zL r)) := mW_D hDk
        clear hFc hB1 hk1 hz1 ht hvm
        generalize H1 = H at hP hS ⊢
        refine lv_if_ne hx hb d_M_write_42 rfl (fun h9 => absurd h9 (by decide)) (fun _ => ?_)
        refine lv_aload_n hx hb d_M_write_45 rfl (lv_at hl 0 rfl) ?_
        refine lv_aload_n hx hb d_M_write_46 rfl (lv_at hl 0 rfl) ?_
        refine va_get (D := (dC, dI)) (ci := 2) (v := .ref (a 8)) (C := R_M) (T := F_M) (N := 11) hx hb hB in_M hown hK hP 0 rfl rfl 8 (by decide) (hB _ bw_363) (fun _ h9 => h9) rfl d_M_write_47 ?_
        refine lv_iload_n hx hb d_M_write_50 rfl (lv_at hl 1 rfl) ?_
        refine va_zald hx hb hK hP 8 4 rfl rfl (pk_in j 8 (by omega)) d_M_write_51 ?_
        refine W.eq (g2 := F0 m 52 ls [.int (bI (zO r j)), .ref (a 0)]) (by rw [cl_nI (by omega)]) ?_
        refine W.eq (g2 := F0 m 52 ls [.int (bI false), .ref (a 0)]) (by rw [ho]) ?_
        refine lv_if_ne hx hb d_M_write_52 rfl (fun h9 => absurd h9 (by decide)) (fun _ => ?_)
        refine lv_iconst (v := bI true) hx hb d_M_write_55 (by decide) ?_
        refine lv_goto hx hb d_M_write_56 rfl ?_
        refine lv_iconst (v := 3) hx hb d_M_write_60 (by decide) ?_
        have hFc := va_free (wc := mW k a (0, zC r, zW r, zG r, zP r, zS r, zH r, zR r, zO r, zD r, zL r)) hD hS hA [0, 1, 2, 3, 4, 5, 6, 7, 8] rfl
        refine va_calli (va_runV (As := [.int (bI true), .int 3]) (rest := []) ⟨hx, hb, hml, hown, hB⟩ (m_M_fails_t l dC dI k a _ (0, zC r, zW r, zG r, zP r, zS r, zH r, zR r, zO r, zD r, zL r) 3 rfl (by decide)) (cwV 2 hB (BIG_V bw_394 bw_395 bw_10 bw_18 bw_396) rfl rfl rfl ⟨rfl, by decide, by decide, by decide +kernel⟩ ⟨Nat.le_of_ble_eq_true rfl, Nat.le_of_ble_eq_true rfl⟩) (mPc_pre _ hP hK hD) rfl rfl hl.1 rfl (lv_room (Nat.le_of_ble_eq_true rfl)) d_M_write_61 ⟨Nat.zero_le _, Nat.zero_le _⟩) hS (fun q _ h => hFc q h) hFc (fun r7 u t H1 locs ht hvm hw hB1 hz1 hk1 hS => ?_)
        obtain ⟨hw1, hw2⟩ := hw
        subst hw1
        subst hw2
        have hP : va_P (dC, dI) vwC (mW k a (zErr (0, zC r, zW r, zG r, zP r, zS r, zH r, zR r, zO r, zD r, zL r) 3)) H1 := by rw [← ht]; exact hB1
        have hD : va_D A (mW k a (zErr (0, zC r, zW r, zG r, zP r, zS r, zH r, zR r, zO r, zD r, zL r) 3)) := mW_D hDk
        clear hFc hB1 hk1 hz1 ht hvm
        generalize H1 = H at hP hS ⊢
        have hP : va_P (dC, dI) vwC (mW k a (3, zC r, zW r, zG r, zP r, zS r, zH r, zR r, zO r, zD r, zL r)) H := hP
        have hD : va_D A (mW k a (3, zC r, zW r, zG r, zP r, zS r, zH r, zR r, zO r, zD r, zL r)) := hD
        refine lv_if_eq hx hb d_M_write_64 rfl (fun h9 => absurd h9 (by decide)) (fun _ => ?_)
        exact W.vret hx hb hr (fun t ht hW => ⟨⟨(3, zC r, zW r, zG r, zP r, zS r, zH r, zR r, zO r, zD r, zL r), rfl, by unfold zWrite; rw [hq]; dsimp only; rw [hy]; dsimp only; rw [if_pos ho]; first | done | rfl, by show va_P (dC, dI) vwC _ t.heap; rw [ht]; exact hP⟩, hS.F ht⟩) hS.2.2 d_M_write_67
      | true =>
        obtain ⟨hp1, hp5⟩ := hok j hj ho
        have hat : zAt r j i < 1280 := by unfold zAt; omega
        refine lv_aload_n hx hb d_M_write_0 rfl (lv_at hl 0 rfl) ?_
        refine lv_iconst (v := 0) hx hb d_M_write_1 (by decide) ?_
        refine va_put (D := (dC, dI)) (ci := 2) (v := .int 0) (ty := .int) (C := R_M) (T := F_M) (N := 11) hx hb hB in_M tf_M ty_M nm_M hown hK hP hD hS 0 rfl rfl 0 (by decide) (hB _ bw_355) (fun _ h9 => h9) rfl (by decide +kernel) rfl rfl (Nat.le_of_ble_eq_true rfl) d_M_write_2 (fun H locs hP hD hS => ?_)
        have hP : va_P (dC, dI) vwC (mW k a (0, zC r, zW r, zG r, zP r, zS r, zH r, zR r, zO r, zD r, zL r)) H := hP
        have hD : va_D A (mW k a (0, zC r, zW r, zG r, zP r, zS r, zH r, zR r, zO r, zD r, zL r)) := hD
        refine lv_aload_n hx hb d_M_write_5 rfl (lv_at hl 0 rfl) ?_
        refine lv_iload_n hx hb d_M_write_6 rfl (lv_at hl 1 rfl) ?_
        refine vp_callSi (va_Run.run (va_runS (As := [.int (nI j)]) (rest := [.ref (a 0)]) ⟨hx, hb, hml, hown, hB⟩ (m_M_isOne l (nI j)) (va_cwS 1 hB (BIG_SS bw_387 bw_388 bw_18 bw_389) rfl rfl rfl ⟨by decide, by decide, by decide +kernel⟩ ⟨Nat.le_of_ble_eq_true rfl, Nat.le_of_ble_eq_true rfl⟩) preEq rfl rfl hl.1 rfl (lv_room (Nat.le_of_ble_eq_true rfl)) d_M_write_7 ⟨Nat.zero_le _, Nat.zero_le _⟩)) (fun r7 hr7 => ?_)
        refine W.eq (g2 := F0 m 10 ls [.int (bI true), .ref (a 0)]) (by rw [hr7, hq]; rfl) ?_
        refine lv_if_ne hx hb d_M_write_10 rfl (fun _ => ?_) (fun h9 => absurd h9 (by decide))
        refine lv_iconst (v := bI false) hx hb d_M_write_17 (by decide) ?_
        refine lv_iconst (v := 1) hx hb d_M_write_18 (by decide) ?_
        have hFc := va_free (wc := mW k a (0, zC r, zW r, zG r, zP r, zS r, zH r, zR r, zO r, zD r, zL r)) hD hS hA [0, 1, 2, 3, 4, 5, 6, 7, 8] rfl
        refine va_calli (va_runV (As := [.int (bI false), .int 1]) (rest := []) ⟨hx, hb, hml, hown, hB⟩ (m_M_fails_f l dC dI k a _ (0, zC r, zW r, zG r, zP r, zS r, zH r, zR r, zO r, zD r, zL r) 1 rfl) (cwV 2 hB (BIG_V bw_394 bw_395 bw_10 bw_18 bw_396) rfl rfl rfl ⟨rfl, by decide, by decide, by decide +kernel⟩ ⟨Nat.le_of_ble_eq_true rfl, Nat.le_of_ble_eq_true rfl⟩) (mPc_pre _ hP hK hD) rfl rfl hl.1 rfl (lv_room (Nat.le_of_ble_eq_true rfl)) d_M_write_19 ⟨Nat.zero_le _, Nat.zero_le _⟩) hS (fun q _ h => hFc q h) hFc (fun r7 u t H1 locs ht hvm hw hB1 hz1 hk1 hS => ?_)
        obtain ⟨hw1, hw2⟩ := hw
        subst hw1
        subst hw2
        have hP : va_P (dC, dI) vwC (mW k a (0, zC r, zW r, zG r, zP r, zS r, zH r, zR r, zO r, zD r, zL r)) H1 := by rw [← ht]; exact hB1
        have hD : va_D A (mW k a (0, zC r, zW r, zG r, zP r, zS r, zH r, zR r, zO r, zD r, zL r)) := mW_D hDk
        clear hFc hB1 hk1 hz1 ht hvm
        generalize H1 = H at hP hS ⊢
        refine lv_if_ne hx hb d_M_write_22 rfl (fun h9 => absurd h9 (by decide)) (fun _ => ?_)
        refine lv_aload_n hx hb d_M_write_25 rfl (lv_at hl 0 rfl) ?_
        refine lv_iload_n hx hb d_M_write_26 rfl (lv_at hl 2 rfl) ?_
        refine vp_callSi (va_Run.run (va_runS (As := [.int (nI i)]) (rest := [.ref (a 0)]) ⟨hx, hb, hml, hown, hB⟩ (m_M_isCell l (nI i)) (va_cwS 1 hB (BIG_SS bw_404 bw_405 bw_18 bw_406) rfl rfl rfl ⟨by decide, by decide, by decide +kernel⟩ ⟨Nat.le_of_ble_eq_true rfl, Nat.le_of_ble_eq_true rfl⟩) preEq rfl rfl hl.1 rfl (lv_room (Nat.le_of_ble_eq_true rfl)) d_M_write_27 ⟨Nat.zero_le _, Nat.zero_le _⟩)) (fun r7 hr7 => ?_)
        refine W.eq (g2 := F0 m 30 ls [.int (bI true), .ref (a 0)]) (by rw [hr7, hy]; rfl) ?_
        refine lv_if_ne hx hb d_M_write_30 rfl (fun _ => ?_) (fun h9 => absurd h9 (by decide))
        refine lv_iconst (v := bI false) hx hb d_M_write_37 (by decide) ?_
        refine lv_iconst (v := 2) hx hb d_M_write_38 (by decide) ?_
        have hFc := va_free (wc := mW k a (0, zC r, zW r, zG r, zP r, zS r, zH r, zR r, zO r, zD r, zL r)) hD hS hA [0, 1, 2, 3, 4, 5, 6, 7, 8] rfl
        refine va_calli (va_runV (As := [.int (bI false), .int 2]) (rest := []) ⟨hx, hb, hml, hown, hB⟩ (m_M_fails_f l dC dI k a _ (0, zC r, zW r, zG r, zP r, zS r, zH r, zR r, zO r, zD r, zL r) 2 rfl) (cwV 2 hB (BIG_V bw_394 bw_395 bw_10 bw_18 bw_396) rfl rfl rfl ⟨rfl, by decide, by decide, by decide +kernel⟩ ⟨Nat.le_of_ble_eq_true rfl, Nat.le_of_ble_eq_true rfl⟩) (mPc_pre _ hP hK hD) rfl rfl hl.1 rfl (lv_room (Nat.le_of_ble_eq_true rfl)) d_M_write_39 ⟨Nat.zero_le _, Nat.zero_le _⟩) hS (fun q _ h => hFc q h) hFc (fun r7 u t H1 locs ht hvm hw hB1 hz1 hk1 hS => ?_)
        obtain ⟨hw1, hw2⟩ := hw
        subst hw1
        subst hw2
        have hP : va_P (dC, dI) vwC (mW k a (0, zC r, zW r, zG r, zP r, zS r, zH r, zR r, zO r, zD r, zL r)) H1 := by rw [← ht]; exact hB1
        have hD : va_D A (mW k a (0, zC r, zW r, zG r, zP r, zS r, zH r, zR r, zO r, zD r, zL r)) := mW_D hDk
        clear hFc hB1 hk1 hz1 ht hvm
        generalize H1 = H at hP hS ⊢
        refine lv_if_ne hx hb d_M_write_42 rfl (fun h9 => absurd h9 (by decide)) (fun _ => ?_)
        refine lv_aload_n hx hb d_M_write_45 rfl (lv_at hl 0 rfl) ?_
        refine lv_aload_n hx hb d_M_write_46 rfl (lv_at hl 0 rfl) ?_
        refine va_get (D := (dC, dI)) (ci := 2) (v := .ref (a 8)) (C := R_M) (T := F_M) (N := 11) hx hb hB in_M hown hK hP 0 rfl rfl 8 (by decide) (hB _ bw_363) (fun _ h9 => h9) rfl d_M_write_47 ?_
        refine lv_iload_n hx hb d_M_write_50 rfl (lv_at hl 1 rfl) ?_
        refine va_zald hx hb hK hP 8 4 rfl rfl (pk_in j 8 (by omega)) d_M_write_51 ?_
        refine W.eq (g2 := F0 m 52 ls [.int (bI (zO r j)), .ref (a 0)]) (by rw [cl_nI (by omega)]) ?_
        refine W.eq (g2 := F0 m 52 ls [.int (bI true), .ref (a 0)]) (by rw [ho]) ?_
        refine lv_if_ne hx hb d_M_write_52 rfl (fun _ => ?_) (fun h9 => absurd h9 (by decide))
        refine lv_iconst (v := bI false) hx hb d_M_write_59 (by decide) ?_
        refine lv_iconst (v := 3) hx hb d_M_write_60 (by decide) ?_
        have hFc := va_free (wc := mW k a (0, zC r, zW r, zG r, zP r, zS r, zH r, zR r, zO r, zD r, zL r)) hD hS hA [0, 1, 2, 3, 4, 5, 6, 7, 8] rfl
        refine va_calli (va_runV (As := [.int (bI false), .int 3]) (rest := []) ⟨hx, hb, hml, hown, hB⟩ (m_M_fails_f l dC dI k a _ (0, zC r, zW r, zG r, zP r, zS r, zH r, zR r, zO r, zD r, zL r) 3 rfl) (cwV 2 hB (BIG_V bw_394 bw_395 bw_10 bw_18 bw_396) rfl rfl rfl ⟨rfl, by decide, by decide, by decide +kernel⟩ ⟨Nat.le_of_ble_eq_true rfl, Nat.le_of_ble_eq_true rfl⟩) (mPc_pre _ hP hK hD) rfl rfl hl.1 rfl (lv_room (Nat.le_of_ble_eq_true rfl)) d_M_write_61 ⟨Nat.zero_le _, Nat.zero_le _⟩) hS (fun q _ h => hFc q h) hFc (fun r7 u t H1 locs ht hvm hw hB1 hz1 hk1 hS => ?_)
        obtain ⟨hw1, hw2⟩ := hw
        subst hw1
        subst hw2
        have hP : va_P (dC, dI) vwC (mW k a (0, zC r, zW r, zG r, zP r, zS r, zH r, zR r, zO r, zD r, zL r)) H1 := by rw [← ht]; exact hB1
        have hD : va_D A (mW k a (0, zC r, zW r, zG r, zP r, zS r, zH r, zR r, zO r, zD r, zL r)) := mW_D hDk
        clear hFc hB1 hk1 hz1 ht hvm
        generalize H1 = H at hP hS ⊢
        refine lv_if_eq hx hb d_M_write_64 rfl (fun _ => ?_) (fun h9 => absurd (by decide) h9)
        refine lv_aload_n hx hb d_M_write_68 rfl (lv_at hl 0 rfl) ?_
        refine va_get (D := (dC, dI)) (ci := 2) (v := .ref (a 6)) (C := R_M) (T := F_M) (N := 11) hx hb hB in_M hown hK hP 0 rfl rfl 6 (by decide) (hB _ bw_361) (fun _ h9 => h9) rfl d_M_write_69 ?_
        refine lv_aload_n hx hb d_M_write_72 rfl (lv_at hl 0 rfl) ?_
        refine lv_iload_n hx hb d_M_write_73 rfl (lv_at hl 1 rfl) ?_
        refine lv_iload_n hx hb d_M_write_74 rfl (lv_at hl 2 rfl) ?_
        refine vp_callSi (va_Run.run (va_runV (As := [.int (nI j), .int (nI i)]) (rest := [.ref (a 6)]) ⟨hx, hb, hml, hown, hB⟩ (m_M_last l dC dI k a (0, zC r, zW r, zG r, zP r, zS r, zH r, zR r, zO r, zD r, zL r) j i (by omega) (by omega) hp1 hp5) (cwV 2 hB (BIG_V bw_397 bw_398 bw_11 bw_18 bw_399) rfl rfl rfl ⟨rfl, by decide, by decide, by decide +kernel⟩ ⟨Nat.le_of_ble_eq_true rfl, Nat.le_of_ble_eq_true rfl⟩) (mRc_pre _ hP hK) rfl rfl hl.1 rfl (lv_room (Nat.le_of_ble_eq_true rfl)) d_M_write_75 ⟨Nat.zero_le _, Nat.zero_le _⟩)) (fun r7 hr7 => ?_)
        refine W.eq (g2 := F0 m 78 ls [.int (nI (zAt r j i)), .ref (a 6)]) (by rw [hr7]; rfl) ?_
        refine lv_iconst (v := bI true) hx hb d_M_write_78 (by decide) ?_
        refine va_zast hx hb hK hP hD hS 6 4 rfl rfl (pk_in (zAt r j i) 1280 (by omega)) d_M_write_79 (fun H locs hP hD hS => ?_)
        rw [cl_nI (by omega), bI_upd] at hP
        have hP : va_P (dC, dI) vwC (mW k a (0, zC r, zW r, zG r, zP r, zS r, va_up (zH r) (zAt r j i) true, zR r, zO r, zD r, zL r)) H := hP
        have hD : va_D A (mW k a (0, zC r, zW r, zG r, zP r, zS r, va_up (zH r) (zAt r j i) true, zR r, zO r, zD r, zL r)) := mW_D hDk
        refine lv_aload_n hx hb d_M_write_80 rfl (lv_at hl 0 rfl) ?_
        refine va_get (D := (dC, dI)) (ci := 2) (v := .ref (a 2)) (C := R_M) (T := F_M) (N := 11) hx hb hB in_M hown hK hP 0 rfl rfl 2 (by decide) (hB _ bw_357) (fun _ h9 => h9) rfl d_M_write_81 ?_
        refine lv_aload_n hx hb d_M_write_84 rfl (lv_at hl 0 rfl) ?_
        refine lv_iload_n hx hb d_M_write_85 rfl (lv_at hl 1 rfl) ?_
        refine lv_iload_n hx hb d_M_write_86 rfl (lv_at hl 2 rfl) ?_
        refine vp_callSi (va_Run.run (va_runV (As := [.int (nI j), .int (nI i)]) (rest := [.ref (a 2)]) ⟨hx, hb, hml, hown, hB⟩ (m_M_last l dC dI k a (0, zC r, zW r, zG r, zP r, zS r, va_up (zH r) (zAt r j i) true, zR r, zO r, zD r, zL r) j i (by omega) (by omega) hp1 hp5) (cwV 2 hB (BIG_V bw_397 bw_398 bw_11 bw_18 bw_399) rfl rfl rfl ⟨rfl, by decide, by decide, by decide +kernel⟩ ⟨Nat.le_of_ble_eq_true rfl, Nat.le_of_ble_eq_true rfl⟩) (mRc_pre _ hP hK) rfl rfl hl.1 rfl (lv_room (Nat.le_of_ble_eq_true rfl)) d_M_write_87 ⟨Nat.zero_le _, Nat.zero_le _⟩)) (fun r7 hr7 => ?_)
        refine W.eq (g2 := F0 m 90 ls [.int (nI (zAt r j i)), .ref (a 2)]) (by rw [hr7]; rfl) ?_
        refine lv_lload_n hx hb d_M_write_90 rfl (lv_at hl 3 rfl) ?_
        refine va_last hx hb hK hP hD hS 2 1 rfl rfl (pk_in (zAt r j i) 1280 (by omega)) d_M_write_91 (fun H locs hP hD hS => ?_)
        rw [cl_nI (by omega)] at hP
        have hP : va_P (dC, dI) vwC (mW k a (0, zC r, vp_updL (zW r) (zAt r j i) x, zG r, zP r, zS r, va_up (zH r) (zAt r j i) true, zR r, zO r, zD r, zL r)) H := hP
        have hD : va_D A (mW k a (0, zC r, vp_updL (zW r) (zAt r j i) x, zG r, zP r, zS r, va_up (zH r) (zAt r j i) true, zR r, zO r, zD r, zL r)) := mW_D hDk
        exact W.vret hx hb hr (fun t ht hW => ⟨⟨(0, zC r, vp_updL (zW r) (zAt r j i) x, zG r, zP r, zS r, va_up (zH r) (zAt r j i) true, zR r, zO r, zD r, zL r), rfl, by unfold zWrite; rw [hq]; dsimp only; rw [hy]; dsimp only; rw [if_neg (by rw [ho]; decide)]; first | done | rfl, by show va_P (dC, dI) vwC _ t.heap; rw [ht]; exact hP⟩, hS.F ht⟩) hS.2.2 d_M_write_92
set_option maxHeartbeats 4000000 in
set_option maxRecDepth 100000 in
theorem m_M_save (l : Launch) (dC : Nat → ClassId) (dI : Nat → Nat → Nat) (k : Nat → ClassId) (a : Nat → Nat) (sz : Nat) (r : xRS) (tt : Int32) (hok : mOk r) : Met l y_M_save w_M_save (rmx 2 0 0 80) (mPc dC dI k a sz r [.ref (a 0), .int tt]) (va_Qi (fun o u => (o, u) = zSave r tt) (mB dC dI k a) (va_A (mW k a r) sz)) 0 0 (va_A (mW k a r) sz) := by
  refine Met.ofW (cc := c_M_save) (maxL := 2) (ret := (some .int)) (by decide) rfl ?_
  intro p e s m args below meth c s₁ B hml hv
  obtain ⟨rfl, hsz, hP, hK, hD0⟩ := hv
  have hx := B.exec
  have hb := B.bytes
  have hr := B.returns
  have hts := atoms_spec (ws := w_M_save) B.pre
  have hB : ∀ w ∈ BIG, w.before _ s = true := fun w h => hts w (List.mem_cons_of_mem _ h)
  have hown : s.vm.findClass R_M = some m.cls := findClass_of_methodNamed B.named
  have hlocks := B.notSynchronized
  have hl := lv_entry ([.ref (a 0), .int tt]) (n := 2) (Nat.le_of_ble_eq_true rfl)
  rw [lg_entry_eq]
  generalize (lg_sl ([.ref (a 0), .int tt]) ++ List.replicate (2 - (lg_sl ([.ref (a 0), .int tt])).length) Slot.unset).toArray = ls at hl ⊢
  have hl : lv_has ls 2 [(0, .ref (a 0)), (1, .int tt)] := hl
  subst hsz
  have hD := hD0.self (sz := s.heap.size)
  generalize hAe : va_A (mW k a r) s.heap.size = A at hD ⊢
  have hA : ∀ q : Nat, s.heap.size ≤ q → A q := fun q h => by rw [← hAe]; exact Or.inr h
  have hS : va_S A s.heap s.heap [] := va_S.rf
  have hDk := hD
  cases hq : ix 8 tt with
  | none =>
    refine lv_aload_n hx hb d_M_save_0 rfl (lv_at hl 0 rfl) ?_
    refine lv_iconst (v := 0) hx hb d_M_save_1 (by decide) ?_
    refine va_put (D := (dC, dI)) (ci := 2) (v := .int 0) (ty := .int) (C := R_M) (T := F_M) (N := 11) hx hb hB in_M tf_M ty_M nm_M hown hK hP hD hS 0 rfl rfl 0 (by decide) (hB _ bw_355) (fun _ h9 => h9) rfl (by decide +kernel) rfl rfl (Nat.le_of_ble_eq_true rfl) d_M_save_2 (fun H locs hP hD hS => ?_)
    have hP : va_P (dC, dI) vwC (mW k a (0, zC r, zW r, zG r, zP r, zS r, zH r, zR r, zO r, zD r, zL r)) H := hP
    have hD : va_D A (mW k a (0, zC r, zW r, zG r, zP r, zS r, zH r, zR r, zO r, zD r, zL r)) := hD
    refine lv_aload_n hx hb d_M_save_5 rfl (lv_at hl 0 rfl) ?_
    refine lv_iload_n hx hb d_M_save_6 rfl (lv_at hl 1 rfl) ?_
    refine vp_callSi (va_Run.run (va_runS (As := [.int tt]) (rest := [.ref (a 0)]) ⟨hx, hb, hml, hown, hB⟩ (m_M_isOne l tt) (va_cwS 1 hB (BIG_SS bw_387 bw_388 bw_18 bw_389) rfl rfl rfl ⟨by decide, by decide, by decide +kernel⟩ ⟨Nat.le_of_ble_eq_true rfl, Nat.le_of_ble_eq_true rfl⟩) preEq rfl rfl hl.1 rfl (lv_room (Nat.le_of_ble_eq_true rfl)) d_M_save_7 ⟨Nat.zero_le _, Nat.zero_le _⟩)) (fun r7 hr7 => ?_)
    refine W.eq (g2 := F0 m 10 ls [.int (bI false), .ref (a 0)]) (by rw [hr7, hq]; rfl) ?_
    refine lv_if_ne hx hb d_M_save_10 rfl (fun h9 => absurd h9 (by decide)) (fun _ => ?_)
    refine lv_iconst (v := bI true) hx hb d_M_save_13 (by decide) ?_
    refine lv_goto hx hb d_M_save_14 rfl ?_
    refine lv_iconst (v := 1) hx hb d_M_save_18 (by decide) ?_
    have hFc := va_free (wc := mW k a (0, zC r, zW r, zG r, zP r, zS r, zH r, zR r, zO r, zD r, zL r)) hD hS hA [0, 1, 2, 3, 4, 5, 6, 7, 8] rfl
    refine va_calli (va_runV (As := [.int (bI true), .int 1]) (rest := []) ⟨hx, hb, hml, hown, hB⟩ (m_M_fails_t l dC dI k a _ (0, zC r, zW r, zG r, zP r, zS r, zH r, zR r, zO r, zD r, zL r) 1 rfl (by decide)) (cwV 2 hB (BIG_V bw_394 bw_395 bw_10 bw_18 bw_396) rfl rfl rfl ⟨rfl, by decide, by decide, by decide +kernel⟩ ⟨Nat.le_of_ble_eq_true rfl, Nat.le_of_ble_eq_true rfl⟩) (mPc_pre _ hP hK hD) rfl rfl hl.1 rfl (lv_room (Nat.le_of_ble_eq_true rfl)) d_M_save_19 ⟨Nat.zero_le _, Nat.zero_le _⟩) hS (fun q _ h => hFc q h) hFc (fun r7 u t H1 locs ht hvm hw hB1 hz1 hk1 hS => ?_)
    obtain ⟨hw1, hw2⟩ := hw
    subst hw1
    subst hw2
    have hP : va_P (dC, dI) vwC (mW k a (zErr (0, zC r, zW r, zG r, zP r, zS r, zH r, zR r, zO r, zD r, zL r) 1)) H1 := by rw [← ht]; exact hB1
    have hD : va_D A (mW k a (zErr (0, zC r, zW r, zG r, zP r, zS r, zH r, zR r, zO r, zD r, zL r) 1)) := mW_D hDk
    clear hFc hB1 hk1 hz1 ht hvm
    generalize H1 = H at hP hS ⊢
    have hP : va_P (dC, dI) vwC (mW k a (1, zC r, zW r, zG r, zP r, zS r, zH r, zR r, zO r, zD r, zL r)) H := hP
    have hD : va_D A (mW k a (1, zC r, zW r, zG r, zP r, zS r, zH r, zR r, zO r, zD r, zL r)) := hD
    refine lv_if_ne hx hb d_M_save_22 rfl (fun _ => ?_) (fun h9 => absurd h9 (by decide))
    refine lv_iconst (v := 0) hx hb d_M_save_70 (by decide) ?_
    exact W.iret (v := 0) hx hb hr (fun t ht hW => ⟨⟨0, (1, zC r, zW r, zG r, zP r, zS r, zH r, zR r, zO r, zD r, zL r), rfl, by unfold zSave; rw [hq]; first | done | rfl, by show va_P (dC, dI) vwC _ t.heap; rw [ht]; exact hP⟩, hS.F ht⟩) hS.2.2 d_M_save_71
  | some j =>
    obtain ⟨hj, htj⟩ := ix_some (by decide) hq
    subst htj
    cases ho : zO r j with
    | false =>
      refine lv_aload_n hx hb d_M_save_0 rfl (lv_at hl 0 rfl) ?_
      refine lv_iconst (v := 0) hx hb d_M_save_1 (by decide) ?_
      refine va_put (D := (dC, dI)) (ci := 2) (v := .int 0) (ty := .int) (C := R_M) (T := F_M) (N := 11) hx hb hB in_M tf_M ty_M nm_M hown hK hP hD hS 0 rfl rfl 0 (by decide) (hB _ bw_355) (fun _ h9 => h9) rfl (by decide +kernel) rfl rfl (Nat.le_of_ble_eq_true rfl) d_M_save_2 (fun H locs hP hD hS => ?_)
      have hP : va_P (dC, dI) vwC (mW k a (0, zC r, zW r, zG r, zP r, zS r, zH r, zR r, zO r, zD r, zL r)) H := hP
      have hD : va_D A (mW k a (0, zC r, zW r, zG r, zP r, zS r, zH r, zR r, zO r, zD r, zL r)) := hD
      refine lv_aload_n hx hb d_M_save_5 rfl (lv_at hl 0 rfl) ?_
      refine lv_iload_n hx hb d_M_save_6 rfl (lv_at hl 1 rfl) ?_
      refine vp_callSi (va_Run.run (va_runS (As := [.int (nI j)]) (rest := [.ref (a 0)]) ⟨hx, hb, hml, hown, hB⟩ (m_M_isOne l (nI j)) (va_cwS 1 hB (BIG_SS bw_387 bw_388 bw_18 bw_389) rfl rfl rfl ⟨by decide, by decide, by decide +kernel⟩ ⟨Nat.le_of_ble_eq_true rfl, Nat.le_of_ble_eq_true rfl⟩) preEq rfl rfl hl.1 rfl (lv_room (Nat.le_of_ble_eq_true rfl)) d_M_save_7 ⟨Nat.zero_le _, Nat.zero_le _⟩)) (fun r7 hr7 => ?_)
      refine W.eq (g2 := F0 m 10 ls [.int (bI true), .ref (a 0)]) (by rw [hr7, hq]; rfl) ?_
      refine lv_if_ne hx hb d_M_save_10 rfl (fun _ => ?_) (fun h9 => absurd h9 (by decide))
      refine lv_iconst (v := bI false) hx hb d_M_save_17 (by decide) ?_
      refine lv_iconst (v := 1) hx hb d_M_save_18 (by decide) ?_
      have hFc := va_free (wc := mW k a (0, zC r, zW r, zG r, zP r, zS r, zH r, zR r, zO r, zD r, zL r)) hD hS hA [0, 1, 2, 3, 4, 5, 6, 7, 8] rfl
      refine va_calli (va_runV (As := [.int (bI false), .int 1]) (rest := []) ⟨hx, hb, hml, hown, hB⟩ (m_M_fails_f l dC dI k a _ (0, zC r, zW r, zG r, zP r, zS r, zH r, zR r, zO r, zD r, zL r) 1 rfl) (cwV 2 hB (BIG_V bw_394 bw_395 bw_10 bw_18 bw_396) rfl rfl rfl ⟨rfl, by decide, by decide, by decide +kernel⟩ ⟨Nat.le_of_ble_eq_true rfl, Nat.le_of_ble_eq_true rfl⟩) (mPc_pre _ hP hK hD) rfl rfl hl.1 rfl (lv_room (Nat.le_of_ble_eq_true rfl)) d_M_save_19 ⟨Nat.zero_le _, Nat.zero_le _⟩) hS (fun q _ h => hFc q h) hFc (fun r7 u t H1 locs ht hvm hw hB1 hz1 hk1 hS => ?_)
      obtain ⟨hw1, hw2⟩ := hw
      subst hw1
      subst hw2
      have hP : va_P (dC, dI) vwC (mW k a (0, zC r, zW r, zG r, zP r, zS r, zH r, zR r, zO r, zD r, zL r)) H1 := by rw [← ht]; exact hB1
      have hD : va_D A (mW k a (0, zC r, zW r, zG r, zP r, zS r, zH r, zR r, zO r, zD r, zL r)) := mW_D hDk
      clear hFc hB1 hk1 hz1 ht hvm
      generalize H1 = H at hP hS ⊢
      refine lv_if_ne hx hb d_M_save_22 rfl (fun h9 => absurd h9 (by decide)) (fun _ => ?_)
      refine lv_aload_n hx hb d_M_save_25 rfl (lv_at hl 0 rfl) ?_
      refine lv_aload_n hx hb d_M_save_26 rfl (lv_at hl 0 rfl) ?_
      refine va_get (D := (dC, dI)) (ci := 2) (v := .ref (a 8)) (C := R_M) (T := F_M) (N := 11) hx hb hB in_M hown hK hP 0 rfl rfl 8 (by decide) (hB _ bw_363) (fun _ h9 => h9) rfl d_M_save_27 ?_
      refine lv_iload_n hx hb d_M_save_30 rfl (lv_at hl 1 rfl) ?_
      refine va_zald hx hb hK hP 8 4 rfl rfl (pk_in j 8 (by omega)) d_M_save_31 ?_
      refine W.eq (g2 := F0 m 32 ls [.int (bI (zO r j)), .ref (a 0)]) (by rw [cl_nI (by omega)]) ?_
      refine W.eq (g2 := F0 m 32 ls [.int (bI false), .ref (a 0)]) (by rw [ho]) ?_
      refine lv_if_ne hx hb d_M_save_32 rfl (fun h9 => absurd h9 (by decide)) (fun _ => ?_)
      refine lv_iconst (v := bI true) hx hb d_M_save_35 (by decide) ?_
      refine lv_goto hx hb d_M_save_36 rfl ?_
      refine lv_iconst (v := 2) hx hb d_M_save_40 (by decide) ?_
      have hFc := va_free (wc := mW k a (0, zC r, zW r, zG r, zP r, zS r, zH r, zR r, zO r, zD r, zL r)) hD hS hA [0, 1, 2, 3, 4, 5, 6, 7, 8] rfl
      refine va_calli (va_runV (As := [.int (bI true), .int 2]) (rest := []) ⟨hx, hb, hml, hown, hB⟩ (m_M_fails_t l dC dI k a _ (0, zC r, zW r, zG r, zP r, zS r, zH r, zR r, zO r, zD r, zL r) 2 rfl (by decide)) (cwV 2 hB (BIG_V bw_394 bw_395 bw_10 bw_18 bw_396) rfl rfl rfl ⟨rfl, by decide, by decide, by decide +kernel⟩ ⟨Nat.le_of_ble_eq_true rfl, Nat.le_of_ble_eq_true rfl⟩) (mPc_pre _ hP hK hD) rfl rfl hl.1 rfl (lv_room (Nat.le_of_ble_eq_true rfl)) d_M_save_41 ⟨Nat.zero_le _, Nat.zero_le _⟩) hS (fun q _ h => hFc q h) hFc (fun r7 u t H1 locs ht hvm hw hB1 hz1 hk1 hS => ?_)
      obtain ⟨hw1, hw2⟩ := hw
      subst hw1
      subst hw2
      have hP : va_P (dC, dI) vwC (mW k a (zErr (0, zC r, zW r, zG r, zP r, zS r, zH r, zR r, zO r, zD r, zL r) 2)) H1 := by rw [← ht]; exact hB1
      have hD : va_D A (mW k a (zErr (0, zC r, zW r, zG r, zP r, zS r, zH r, zR r, zO r, zD r, zL r) 2)) := mW_D hDk
      clear hFc hB1 hk1 hz1 ht hvm
      generalize H1 = H at hP hS ⊢
      have hP : va_P (dC, dI) vwC (mW k a (2, zC r, zW r, zG r, zP r, zS r, zH r, zR r, zO r, zD r, zL r)) H := hP
      have hD : va_D A (mW k a (2, zC r, zW r, zG r, zP r, zS r, zH r, zR r, zO r, zD r, zL r)) := hD
      refine lv_if_ne hx hb d_M_save_44 rfl (fun _ => ?_) (fun h9 => absurd h9 (by decide))
      refine lv_iconst (v := 0) hx hb d_M_save_70 (by decide) ?_
      exact W.iret (v := 0) hx hb hr (fun t ht hW => ⟨⟨0, (2, zC r, zW r, zG r, zP r, zS r, zH r, zR r, zO r, zD r, zL r), rfl, by unfold zSave; rw [hq]; dsimp only; rw [if_pos ho]; first | done | rfl, by show va_P (dC, dI) vwC _ t.heap; rw [ht]; exact hP⟩, hS.F ht⟩) hS.2.2 d_M_save_71
    | true =>
      obtain ⟨hp1, hp5⟩ := hok j hj ho
      by_cases h1 : zP r j = 5
      · have h2 : nI (zP r j) = nI 5 := by rw [h1]
        refine lv_aload_n hx hb d_M_save_0 rfl (lv_at hl 0 rfl) ?_
        refine lv_iconst (v := 0) hx hb d_M_save_1 (by decide) ?_
        refine va_put (D := (dC, dI)) (ci := 2) (v := .int 0) (ty := .int) (C := R_M) (T := F_M) (N := 11) hx hb hB in_M tf_M ty_M nm_M hown hK hP hD hS 0 rfl rfl 0 (by decide) (hB _ bw_355) (fun _ h9 => h9) rfl (by decide +kernel) rfl rfl (Nat.le_of_ble_eq_true rfl) d_M_save_2 (fun H locs hP hD hS => ?_)
        have hP : va_P (dC, dI) vwC (mW k a (0, zC r, zW r, zG r, zP r, zS r, zH r, zR r, zO r, zD r, zL r)) H := hP
        have hD : va_D A (mW k a (0, zC r, zW r, zG r, zP r, zS r, zH r, zR r, zO r, zD r, zL r)) := hD
        refine lv_aload_n hx hb d_M_save_5 rfl (lv_at hl 0 rfl) ?_
        refine lv_iload_n hx hb d_M_save_6 rfl (lv_at hl 1 rfl) ?_
        refine vp_callSi (va_Run.run (va_runS (As := [.int (nI j)]) (rest := [.ref (a 0)]) ⟨hx, hb, hml, hown, hB⟩ (m_M_isOne l (nI j)) (va_cwS 1 hB (BIG_SS bw_387 bw_388 bw_18 bw_389) rfl rfl rfl ⟨by decide, by decide, by decide +kernel⟩ ⟨Nat.le_of_ble_eq_true rfl, Nat.le_of_ble_eq_true rfl⟩) preEq rfl rfl hl.1 rfl (lv_room (Nat.le_of_ble_eq_true rfl)) d_M_save_7 ⟨Nat.zero_le _, Nat.zero_le _⟩)) (fun r7 hr7 => ?_)
        refine W.eq (g2 := F0 m 10 ls [.int (bI true), .ref (a 0)]) (by rw [hr7, hq]; rfl) ?_
        refine lv_if_ne hx hb d_M_save_10 rfl (fun _ => ?_) (fun h9 => absurd h9 (by decide))
        refine lv_iconst (v := bI false) hx hb d_M_save_17 (by decide) ?_
        refine lv_iconst (v := 1) hx hb d_M_save_18 (by decide) ?_
        have hFc := va_free (wc := mW k a (0, zC r, zW r, zG r, zP r, zS r, zH r, zR r, zO r, zD r, zL r)) hD hS hA [0, 1, 2, 3, 4, 5, 6, 7, 8] rfl
        refine va_calli (va_runV (As := [.int (bI false), .int 1]) (rest := []) ⟨hx, hb, hml, hown, hB⟩ (m_M_fails_f l dC dI k a _ (0, zC r, zW r, zG r, zP r, zS r, zH r, zR r, zO r, zD r, zL r) 1 rfl) (cwV 2 hB (BIG_V bw_394 bw_395 bw_10 bw_18 bw_396) rfl rfl rfl ⟨rfl, by decide, by decide, by decide +kernel⟩ ⟨Nat.le_of_ble_eq_true rfl, Nat.le_of_ble_eq_true rfl⟩) (mPc_pre _ hP hK hD) rfl rfl hl.1 rfl (lv_room (Nat.le_of_ble_eq_true rfl)) d_M_save_19 ⟨Nat.zero_le _, Nat.zero_le _⟩) hS (fun q _ h => hFc q h) hFc (fun r7 u t H1 locs ht hvm hw hB1 hz1 hk1 hS => ?_)
        obtain ⟨hw1, hw2⟩ := hw
        subst hw1
        subst hw2
        have hP : va_P (dC, dI) vwC (mW k a (0, zC r, zW r, zG r, zP r, zS r, zH r, zR r, zO r, zD r, zL r)) H1 := by rw [← ht]; exact hB1
        have hD : va_D A (mW k a (0, zC r, zW r, zG r, zP r, zS r, zH r, zR r, zO r, zD r, zL r)) := mW_D hDk
        clear hFc hB1 hk1 hz1 ht hvm
        generalize H1 = H at hP hS ⊢
        refine lv_if_ne hx hb d_M_save_22 rfl (fun h9 => absurd h9 (by decide)) (fun _ => ?_)
        refine lv_aload_n hx hb d_M_save_25 rfl (lv_at hl 0 rfl) ?_
        refine lv_aload_n hx hb d_M_save_26 rfl (lv_at hl 0 rfl) ?_
        refine va_get (D := (dC, dI)) (ci := 2) (v := .ref (a 8)) (C := R_M) (T := F_M) (N := 11) hx hb hB in_M hown hK hP 0 rfl rfl 8 (by decide) (hB _ bw_363) (fun _ h9 => h9) rfl d_M_save_27 ?_
        refine lv_iload_n hx hb d_M_save_30 rfl (lv_at hl 1 rfl) ?_
        refine va_zald hx hb hK hP 8 4 rfl rfl (pk_in j 8 (by omega)) d_M_save_31 ?_
        refine W.eq (g2 := F0 m 32 ls [.int (bI (zO r j)), .ref (a 0)]) (by rw [cl_nI (by omega)]) ?_
        refine W.eq (g2 := F0 m 32 ls [.int (bI true), .ref (a 0)]) (by rw [ho]) ?_
        refine lv_if_ne hx hb d_M_save_32 rfl (fun _ => ?_) (fun h9 => absurd h9 (by decide))
        refine lv_iconst (v := bI false) hx hb d_M_save_39 (by decide) ?_
        refine lv_iconst (v := 2) hx hb d_M_save_40 (by decide) ?_
        have hFc := va_free (wc := mW k a (0, zC r, zW r, zG r, zP r, zS r, zH r, zR r, zO r, zD r, zL r)) hD hS hA [0, 1, 2, 3, 4, 5, 6, 7, 8] rfl
        refine va_calli (va_runV (As := [.int (bI false), .int 2]) (rest := []) ⟨hx, hb, hml, hown, hB⟩ (m_M_fails_f l dC dI k a _ (0, zC r, zW r, zG r, zP r, zS r, zH r, zR r, zO r, zD r, zL r) 2 rfl) (cwV 2 hB (BIG_V bw_394 bw_395 bw_10 bw_18 bw_396) rfl rfl rfl ⟨rfl, by decide, by decide, by decide +kernel⟩ ⟨Nat.le_of_ble_eq_true rfl, Nat.le_of_ble_eq_true rfl⟩) (mPc_pre _ hP hK hD) rfl rfl hl.1 rfl (lv_room (Nat.le_of_ble_eq_true rfl)) d_M_save_41 ⟨Nat.zero_le _, Nat.zero_le _⟩) hS (fun q _ h => hFc q h) hFc (fun r7 u t H1 locs ht hvm hw hB1 hz1 hk1 hS => ?_)
        obtain ⟨hw1, hw2⟩ := hw
        subst hw1
        subst hw2
        have hP : va_P (dC, dI) vwC (mW k a (0, zC r, zW r, zG r, zP r, zS r, zH r, zR r, zO r, zD r, zL r)) H1 := by rw [← ht]; exact hB1
        have hD : va_D A (mW k a (0, zC r, zW r, zG r, zP r, zS r, zH r, zR r, zO r, zD r, zL r)) := mW_D hDk
        clear hFc hB1 hk1 hz1 ht hvm
        generalize H1 = H at hP hS ⊢
        refine lv_if_ne hx hb d_M_save_44 rfl (fun h9 => absurd h9 (by decide)) (fun _ => ?_)
        refine lv_aload_n hx hb d_M_save_47 rfl (lv_at hl 0 rfl) ?_
        refine lv_aload_n hx hb d_M_save_48 rfl (lv_at hl 0 rfl) ?_
        refine va_get (D := (dC, dI)) (ci := 2) (v := .ref (a 4)) (C := R_M) (T := F_M) (N := 11) hx hb hB in_M hown hK hP 0 rfl rfl 4 (by decide) (hB _ bw_359) (fun _ h9 => h9) rfl d_M_save_49 ?_
        refine lv_iload_n hx hb d_M_save_52 rfl (lv_at hl 1 rfl) ?_
        refine va_iald hx hb hK hP 4 0 rfl rfl (pk_in j 8 (by omega)) d_M_save_53 ?_
        refine W.eq (g2 := F0 m 54 ls [.int (nI (zP r j)), .ref (a 0)]) (by rw [cl_nI (by omega)]) ?_
        refine lv_iconst (v := nI 5) hx hb d_M_save_54 (by decide) ?_
        refine lv_icmp_ne hx hb d_M_save_55 rfl (fun h9 => absurd h9 (fun q => q h2)) (fun _ => ?_)
        refine lv_iconst (v := bI true) hx hb d_M_save_58 (by decide) ?_
        refine lv_goto hx hb d_M_save_59 rfl ?_
        refine lv_iconst (v := 3) hx hb d_M_save_63 (by decide) ?_
        have hFc := va_free (wc := mW k a (0, zC r, zW r, zG r, zP r, zS r, zH r, zR r, zO r, zD r, zL r)) hD hS hA [0, 1, 2, 3, 4, 5, 6, 7, 8] rfl
        refine va_calli (va_runV (As := [.int (bI true), .int 3]) (rest := []) ⟨hx, hb, hml, hown, hB⟩ (m_M_fails_t l dC dI k a _ (0, zC r, zW r, zG r, zP r, zS r, zH r, zR r, zO r, zD r, zL r) 3 rfl (by decide)) (cwV 2 hB (BIG_V bw_394 bw_395 bw_10 bw_18 bw_396) rfl rfl rfl ⟨rfl, by decide, by decide, by decide +kernel⟩ ⟨Nat.le_of_ble_eq_true rfl, Nat.le_of_ble_eq_true rfl⟩) (mPc_pre _ hP hK hD) rfl rfl hl.1 rfl (lv_room (Nat.le_of_ble_eq_true rfl)) d_M_save_64 ⟨Nat.zero_le _, Nat.zero_le _⟩) hS (fun q _ h => hFc q h) hFc (fun r7 u t H1 locs ht hvm hw hB1 hz1 hk1 hS => ?_)
        obtain ⟨hw1, hw2⟩ := hw
        subst hw1
        subst hw2
        have hP : va_P (dC, dI) vwC (mW k a (zErr (0, zC r, zW r, zG r, zP r, zS r, zH r, zR r, zO r, zD r, zL r) 3)) H1 := by rw [← ht]; exact hB1
        have hD : va_D A (mW k a (zErr (0, zC r, zW r, zG r, zP r, zS r, zH r, zR r, zO r, zD r, zL r) 3)) := mW_D hDk
        clear hFc hB1 hk1 hz1 ht hvm
        generalize H1 = H at hP hS ⊢
        have hP : va_P (dC, dI) vwC (mW k a (3, zC r, zW r, zG r, zP r, zS r, zH r, zR r, zO r, zD r, zL r)) H := hP
        have hD : va_D A (mW k a (3, zC r, zW r, zG r, zP r, zS r, zH r, zR r, zO r, zD r, zL r)) := hD
        refine lv_if_eq hx hb d_M_save_67 rfl (fun h9 => absurd h9 (by decide)) (fun _ => ?_)
        refine lv_iconst (v := 0) hx hb d_M_save_70 (by decide) ?_
        exact W.iret (v := 0) hx hb hr (fun t ht hW => ⟨⟨0, (3, zC r, zW r, zG r, zP r, zS r, zH r, zR r, zO r, zD r, zL r), rfl, by unfold zSave; rw [hq]; dsimp only; rw [if_neg (by rw [ho]; decide)]; rw [if_pos h1]; first | done | rfl, by show va_P (dC, dI) vwC _ t.heap; rw [ht]; exact hP⟩, hS.F ht⟩) hS.2.2 d_M_save_71
      · have h2 : ¬ nI (zP r j) = nI 5 := fun q => h1 ((nI_eq (by omega) (by omega)).mp q)
        have hup : va_up (zP r) j (zP r j + 1) j = zP r j + 1 := va_up_self _ _ _
        have hat : (5 * j + zP r j - 1) * 32 + 32 ≤ 1280 := by omega
        have hz0 : zAt r j 0 + 32 ≤ 1280 ∧ 32 ≤ zAt r j 0 + 32 := by unfold zAt; omega
        have hz1 : zAt r j 0 + 32 + 32 ≤ 1280 := by unfold zAt; omega
        refine lv_aload_n hx hb d_M_save_0 rfl (lv_at hl 0 rfl) ?_
        refine lv_iconst (v := 0) hx hb d_M_save_1 (by decide) ?_
        refine va_put (D := (dC, dI)) (ci := 2) (v := .int 0) (ty := .int) (C := R_M) (T := F_M) (N := 11) hx hb hB in_M tf_M ty_M nm_M hown hK hP hD hS 0 rfl rfl 0 (by decide) (hB _ bw_355) (fun _ h9 => h9) rfl (by decide +kernel) rfl rfl (Nat.le_of_ble_eq_true rfl) d_M_save_2 (fun H locs hP hD hS => ?_)
        have hP : va_P (dC, dI) vwC (mW k a (0, zC r, zW r, zG r, zP r, zS r, zH r, zR r, zO r, zD r, zL r)) H := hP
        have hD : va_D A (mW k a (0, zC r, zW r, zG r, zP r, zS r, zH r, zR r, zO r, zD r, zL r)) := hD
        refine lv_aload_n hx hb d_M_save_5 rfl (lv_at hl 0 rfl) ?_
        refine lv_iload_n hx hb d_M_save_6 rfl (lv_at hl 1 rfl) ?_
        refine vp_callSi (va_Run.run (va_runS (As := [.int (nI j)]) (rest := [.ref (a 0)]) ⟨hx, hb, hml, hown, hB⟩ (m_M_isOne l (nI j)) (va_cwS 1 hB (BIG_SS bw_387 bw_388 bw_18 bw_389) rfl rfl rfl ⟨by decide, by decide, by decide +kernel⟩ ⟨Nat.le_of_ble_eq_true rfl, Nat.le_of_ble_eq_true rfl⟩) preEq rfl rfl hl.1 rfl (lv_room (Nat.le_of_ble_eq_true rfl)) d_M_save_7 ⟨Nat.zero_le _, Nat.zero_le _⟩)) (fun r7 hr7 => ?_)
        refine W.eq (g2 := F0 m 10 ls [.int (bI true), .ref (a 0)]) (by rw [hr7, hq]; rfl) ?_
        refine lv_if_ne hx hb d_M_save_10 rfl (fun _ => ?_) (fun h9 => absurd h9 (by decide))
        refine lv_iconst (v := bI false) hx hb d_M_save_17 (by decide) ?_
        refine lv_iconst (v := 1) hx hb d_M_save_18 (by decide) ?_
        have hFc := va_free (wc := mW k a (0, zC r, zW r, zG r, zP r, zS r, zH r, zR r, zO r, zD r, zL r)) hD hS hA [0, 1, 2, 3, 4, 5, 6, 7, 8] rfl
        refine va_calli (va_runV (As := [.int (bI false), .int 1]) (rest := []) ⟨hx, hb, hml, hown, hB⟩ (m_M_fails_f l dC dI k a _ (0, zC r, zW r, zG r, zP r, zS r, zH r, zR r, zO r, zD r, zL r) 1 rfl) (cwV 2 hB (BIG_V bw_394 bw_395 bw_10 bw_18 bw_396) rfl rfl rfl ⟨rfl, by decide, by decide, by decide +kernel⟩ ⟨Nat.le_of_ble_eq_true rfl, Nat.le_of_ble_eq_true rfl⟩) (mPc_pre _ hP hK hD) rfl rfl hl.1 rfl (lv_room (Nat.le_of_ble_eq_true rfl)) d_M_save_19 ⟨Nat.zero_le _, Nat.zero_le _⟩) hS (fun q _ h => hFc q h) hFc (fun r7 u t H1 locs ht hvm hw hB1 hz1 hk1 hS => ?_)
        obtain ⟨hw1, hw2⟩ := hw
        subst hw1
        subst hw2
        have hP : va_P (dC, dI) vwC (mW k a (0, zC r, zW r, zG r, zP r, zS r, zH r, zR r, zO r, zD r, zL r)) H1 := by rw [← ht]; exact hB1
        have hD : va_D A (mW k a (0, zC r, zW r, zG r, zP r, zS r, zH r, zR r, zO r, zD r, zL r)) := mW_D hDk
        clear hFc hB1 hk1 hz1 ht hvm
        generalize H1 = H at hP hS ⊢
        refine lv_if_ne hx hb d_M_save_22 rfl (fun h9 => absurd h9 (by decide)) (fun _ => ?_)
        refine lv_aload_n hx hb d_M_save_25 rfl (lv_at hl 0 rfl) ?_
        refine lv_aload_n hx hb d_M_save_26 rfl (lv_at hl 0 rfl) ?_
        refine va_get (D := (dC, dI)) (ci := 2) (v := .ref (a 8)) (C := R_M) (T := F_M) (N := 11) hx hb hB in_M hown hK hP 0 rfl rfl 8 (by decide) (hB _ bw_363) (fun _ h9 => h9) rfl d_M_save_27 ?_
        refine lv_iload_n hx hb d_M_save_30 rfl (lv_at hl 1 rfl) ?_
        refine va_zald hx hb hK hP 8 4 rfl rfl (pk_in j 8 (by omega)) d_M_save_31 ?_
        refine W.eq (g2 := F0 m 32 ls [.int (bI (zO r j)), .ref (a 0)]) (by rw [cl_nI (by omega)]) ?_
        refine W.eq (g2 := F0 m 32 ls [.int (bI true), .ref (a 0)]) (by rw [ho]) ?_
        refine lv_if_ne hx hb d_M_save_32 rfl (fun _ => ?_) (fun h9 => absurd h9 (by decide))
        refine lv_iconst (v := bI false) hx hb d_M_save_39 (by decide) ?_
        refine lv_iconst (v := 2) hx hb d_M_save_40 (by decide) ?_
        have hFc := va_free (wc := mW k a (0, zC r, zW r, zG r, zP r, zS r, zH r, zR r, zO r, zD r, zL r)) hD hS hA [0, 1, 2, 3, 4, 5, 6, 7, 8] rfl
        refine va_calli (va_runV (As := [.int (bI false), .int 2]) (rest := []) ⟨hx, hb, hml, hown, hB⟩ (m_M_fails_f l dC dI k a _ (0, zC r, zW r, zG r, zP r, zS r, zH r, zR r, zO r, zD r, zL r) 2 rfl) (cwV 2 hB (BIG_V bw_394 bw_395 bw_10 bw_18 bw_396) rfl rfl rfl ⟨rfl, by decide, by decide, by decide +kernel⟩ ⟨Nat.le_of_ble_eq_true rfl, Nat.le_of_ble_eq_true rfl⟩) (mPc_pre _ hP hK hD) rfl rfl hl.1 rfl (lv_room (Nat.le_of_ble_eq_true rfl)) d_M_save_41 ⟨Nat.zero_le _, Nat.zero_le _⟩) hS (fun q _ h => hFc q h) hFc (fun r7 u t H1 locs ht hvm hw hB1 hz1 hk1 hS => ?_)
        obtain ⟨hw1, hw2⟩ := hw
        subst hw1
        subst hw2
        have hP : va_P (dC, dI) vwC (mW k a (0, zC r, zW r, zG r, zP r, zS r, zH r, zR r, zO r, zD r, zL r)) H1 := by rw [← ht]; exact hB1
        have hD : va_D A (mW k a (0, zC r, zW r, zG r, zP r, zS r, zH r, zR r, zO r, zD r, zL r)) := mW_D hDk
        clear hFc hB1 hk1 hz1 ht hvm
        generalize H1 = H at hP hS ⊢
        refine lv_if_ne hx hb d_M_save_44 rfl (fun h9 => absurd h9 (by decide)) (fun _ => ?_)
        refine lv_aload_n hx hb d_M_save_47 rfl (lv_at hl 0 rfl) ?_
        refine lv_aload_n hx hb d_M_save_48 rfl (lv_at hl 0 rfl) ?_
        refine va_get (D := (dC, dI)) (ci := 2) (v := .ref (a 4)) (C := R_M) (T := F_M) (N := 11) hx hb hB in_M hown hK hP 0 rfl rfl 4 (by decide) (hB _ bw_359) (fun _ h9 => h9) rfl d_M_save_49 ?_
        refine lv_iload_n hx hb d_M_save_52 rfl (lv_at hl 1 rfl) ?_
        refine va_iald hx hb hK hP 4 0 rfl rfl (pk_in j 8 (by omega)) d_M_save_53 ?_
        refine W.eq (g2 := F0 m 54 ls [.int (nI (zP r j)), .ref (a 0)]) (by rw [cl_nI (by omega)]) ?_
        refine lv_iconst (v := nI 5) hx hb d_M_save_54 (by decide) ?_
        refine lv_icmp_ne hx hb d_M_save_55 rfl (fun _ => ?_) (fun h9 => absurd h9 (h2))
        refine lv_iconst (v := bI false) hx hb d_M_save_62 (by decide) ?_
        refine lv_iconst (v := 3) hx hb d_M_save_63 (by decide) ?_
        have hFc := va_free (wc := mW k a (0, zC r, zW r, zG r, zP r, zS r, zH r, zR r, zO r, zD r, zL r)) hD hS hA [0, 1, 2, 3, 4, 5, 6, 7, 8] rfl
        refine va_calli (va_runV (As := [.int (bI false), .int 3]) (rest := []) ⟨hx, hb, hml, hown, hB⟩ (m_M_fails_f l dC dI k a _ (0, zC r, zW r, zG r, zP r, zS r, zH r, zR r, zO r, zD r, zL r) 3 rfl) (cwV 2 hB (BIG_V bw_394 bw_395 bw_10 bw_18 bw_396) rfl rfl rfl ⟨rfl, by decide, by decide, by decide +kernel⟩ ⟨Nat.le_of_ble_eq_true rfl, Nat.le_of_ble_eq_true rfl⟩) (mPc_pre _ hP hK hD) rfl rfl hl.1 rfl (lv_room (Nat.le_of_ble_eq_true rfl)) d_M_save_64 ⟨Nat.zero_le _, Nat.zero_le _⟩) hS (fun q _ h => hFc q h) hFc (fun r7 u t H1 locs ht hvm hw hB1 hz1 hk1 hS => ?_)
        obtain ⟨hw1, hw2⟩ := hw
        subst hw1
        subst hw2
        have hP : va_P (dC, dI) vwC (mW k a (0, zC r, zW r, zG r, zP r, zS r, zH r, zR r, zO r, zD r, zL r)) H1 := by rw [← ht]; exact hB1
        have hD : va_D A (mW k a (0, zC r, zW r, zG r, zP r, zS r, zH r, zR r, zO r, zD r, zL r)) := mW_D hDk
        clear hFc hB1 hk1 hz1 ht hvm
        generalize H1 = H at hP hS ⊢
        refine lv_if_eq hx hb d_M_save_67 rfl (fun _ => ?_) (fun h9 => absurd (by decide) h9)
        refine lv_aload_n hx hb d_M_save_72 rfl (lv_at hl 0 rfl) ?_
        refine va_get (D := (dC, dI)) (ci := 2) (v := .ref (a 4)) (C := R_M) (T := F_M) (N := 11) hx hb hB in_M hown hK hP 0 rfl rfl 4 (by decide) (hB _ bw_359) (fun _ h9 => h9) rfl d_M_save_73 ?_
        refine lv_iload_n hx hb d_M_save_76 rfl (lv_at hl 1 rfl) ?_
        refine lv_dup2_11 hx hb d_M_save_77 rfl rfl ?_
        refine va_iald hx hb hK hP 4 0 rfl rfl (pk_in j 8 (by omega)) d_M_save_78 ?_
        refine W.eq (g2 := F0 m 79 ls [.int (nI (zP r j)), .int (nI j), .ref (a 4)]) (by rw [cl_nI (by omega)]) ?_
        refine lv_iconst (v := nI 1) hx hb d_M_save_79 (by decide) ?_
        refine lv_iadd hx hb d_M_save_80 ?_
        refine W.eq (g2 := F0 m 81 ls [.int (nI ((zP r j) + 1)), .int (nI j), .ref (a 4)]) (by rw [nI_add]) ?_
        refine va_iast hx hb hK hP hD hS 4 0 rfl rfl (pk_in j 8 (by omega)) d_M_save_81 (fun H locs hP hD hS => ?_)
        rw [cl_nI (by omega), nI_upd] at hP
        have hP : va_P (dC, dI) vwC (mW k a (0, zC r, zW r, zG r, va_up (zP r) j ((zP r j) + 1), zS r, zH r, zR r, zO r, zD r, zL r)) H := hP
        have hD : va_D A (mW k a (0, zC r, zW r, zG r, va_up (zP r) j ((zP r j) + 1), zS r, zH r, zR r, zO r, zD r, zL r)) := mW_D hDk
        refine lv_aload_n hx hb d_M_save_82 rfl (lv_at hl 0 rfl) ?_
        refine lv_aload_n hx hb d_M_save_83 rfl (lv_at hl 0 rfl) ?_
        refine lv_iload_n hx hb d_M_save_84 rfl (lv_at hl 1 rfl) ?_
        refine lv_iconst (v := nI 0) hx hb d_M_save_85 (by decide) ?_
        refine vp_callSi (va_Run.run (va_runV (As := [.int (nI j), .int (nI 0)]) (rest := [.ref (a 0)]) ⟨hx, hb, hml, hown, hB⟩ (m_M_last l dC dI k a (0, zC r, zW r, zG r, va_up (zP r) j ((zP r j) + 1), zS r, zH r, zR r, zO r, zD r, zL r) j 0 (by omega) (by omega) (by show 1 ≤ va_up (zP r) j (zP r j + 1) j; rw [hup]; omega) (by show va_up (zP r) j (zP r j + 1) j ≤ 5; rw [hup]; omega)) (cwV 2 hB (BIG_V bw_397 bw_398 bw_11 bw_18 bw_399) rfl rfl rfl ⟨rfl, by decide, by decide, by decide +kernel⟩ ⟨Nat.le_of_ble_eq_true rfl, Nat.le_of_ble_eq_true rfl⟩) (mRc_pre _ hP hK) rfl rfl hl.1 rfl (lv_room (Nat.le_of_ble_eq_true rfl)) d_M_save_86 ⟨Nat.zero_le _, Nat.zero_le _⟩)) (fun r7 hr7 => ?_)
        refine W.eq (g2 := F0 m 89 ls [.int (nI (zAt r j 0 + 32)), .ref (a 0)]) (by rw [hr7]; show F0 _ _ _ (Value.int (nI ((5 * j + va_up (zP r) j (zP r j + 1) j - 1) * 32 + 0)) :: _) = _; rw [hup, show (5 * j + (zP r j + 1) - 1) * 32 + 0 = zAt r j 0 + 32 by unfold zAt; omega]) ?_
        refine lv_bipush (v := nI 32) hx hb d_M_save_89 (by decide) ?_
        refine lv_isub hx hb d_M_save_91 ?_
        refine W.eq (g2 := F0 m 92 ls [.int (nI ((zAt r j 0 + 32) - 32)), .ref (a 0)]) (by rw [pk_sub (by omega)]) ?_
        refine lv_aload_n hx hb d_M_save_92 rfl (lv_at hl 0 rfl) ?_
        refine lv_iload_n hx hb d_M_save_93 rfl (lv_at hl 1 rfl) ?_
        refine lv_iconst (v := nI 0) hx hb d_M_save_94 (by decide) ?_
        refine vp_callSi (va_Run.run (va_runV (As := [.int (nI j), .int (nI 0)]) (rest := [.int (nI ((zAt r j 0 + 32) - 32)), .ref (a 0)]) ⟨hx, hb, hml, hown, hB⟩ (m_M_last l dC dI k a (0, zC r, zW r, zG r, va_up (zP r) j ((zP r j) + 1), zS r, zH r, zR r, zO r, zD r, zL r) j 0 (by omega) (by omega) (by show 1 ≤ va_up (zP r) j (zP r j + 1) j; rw [hup]; omega) (by show va_up (zP r) j (zP r j + 1) j ≤ 5; rw [hup]; omega)) (cwV 2 hB (BIG_V bw_397 bw_398 bw_11 bw_18 bw_399) rfl rfl rfl ⟨rfl, by decide, by decide, by decide +kernel⟩ ⟨Nat.le_of_ble_eq_true rfl, Nat.le_of_ble_eq_true rfl⟩) (mRc_pre _ hP hK) rfl rfl hl.1 rfl (lv_room (Nat.le_of_ble_eq_true rfl)) d_M_save_95 ⟨Nat.zero_le _, Nat.zero_le _⟩)) (fun r7 hr7 => ?_)
        refine W.eq (g2 := F0 m 98 ls [.int (nI (zAt r j 0 + 32)), .int (nI ((zAt r j 0 + 32) - 32)), .ref (a 0)]) (by rw [hr7]; show F0 _ _ _ (Value.int (nI ((5 * j + va_up (zP r) j (zP r j + 1) j - 1) * 32 + 0)) :: _) = _; rw [hup, show (5 * j + (zP r j + 1) - 1) * 32 + 0 = zAt r j 0 + 32 by unfold zAt; omega]) ?_
        refine W.eq (g2 := F0 m 98 ls [.int (nI (zAt r j 0 + 32)), .int (nI (zAt r j 0)), .ref (a 0)]) (by rw [show ((zAt r j 0 + 32) - 32) = zAt r j 0 by omega]) ?_
        have hFc := va_free (wc := mW k a (0, zC r, zW r, zG r, va_up (zP r) j ((zP r j) + 1), zS r, zH r, zR r, zO r, zD r, zL r)) hD hS hA [0, 1, 2, 3, 4, 5, 6, 7, 8] rfl
        refine va_callv (va_runV (As := [.int (nI (zAt r j 0)), .int (nI (zAt r j 0 + 32))]) (rest := []) ⟨hx, hb, hml, hown, hB⟩ (m_M_copy l dC dI k a _ (0, zC r, zW r, zG r, va_up (zP r) j ((zP r j) + 1), zS r, zH r, zR r, zO r, zD r, zL r) (zAt r j 0) (zAt r j 0 + 32) (by omega) (by omega)) (cwV 2 hB (BIG_V bw_419 bw_420 bw_13 bw_18 bw_421) rfl rfl rfl ⟨rfl, by decide, by decide, by decide +kernel⟩ ⟨Nat.le_of_ble_eq_true rfl, Nat.le_of_ble_eq_true rfl⟩) (mPc_pre _ hP hK hD) rfl rfl hl.1 rfl (lv_room (Nat.le_of_ble_eq_true rfl)) d_M_save_98 ⟨Nat.zero_le _, Nat.zero_le _⟩) hS (fun q _ h => hFc q h) hFc (fun u t H1 locs ht hvm hw hB1 hz1 hk1 hS => ?_)
        subst hw
        have hP : va_P (dC, dI) vwC (mW k a (0, zC r, zCpL (zW r) (zAt r j 0) (zAt r j 0 + 32) 32, zG r, va_up (zP r) j (zP r j + 1), zS r, zCpB (zH r) (zAt r j 0) (zAt r j 0 + 32) 32, zR r, zO r, zD r, zL r)) H1 := by rw [← ht]; exact hB1
        have hD : va_D A (mW k a (0, zC r, zCpL (zW r) (zAt r j 0) (zAt r j 0 + 32) 32, zG r, va_up (zP r) j (zP r j + 1), zS r, zCpB (zH r) (zAt r j 0) (zAt r j 0 + 32) 32, zR r, zO r, zD r, zL r)) := mW_D hDk
        clear hFc hB1 hk1 hz1 ht hvm
        generalize H1 = H at hP hS ⊢
        refine lv_aload_n hx hb d_M_save_101 rfl (lv_at hl 0 rfl) ?_
        refine va_get (D := (dC, dI)) (ci := 2) (v := .ref (a 4)) (C := R_M) (T := F_M) (N := 11) hx hb hB in_M hown hK hP 0 rfl rfl 4 (by decide) (hB _ bw_359) (fun _ h9 => h9) rfl d_M_save_102 ?_
        refine lv_iload_n hx hb d_M_save_105 rfl (lv_at hl 1 rfl) ?_
        refine va_iald hx hb hK hP 4 0 rfl rfl (pk_in j 8 (by omega)) d_M_save_106 ?_
        refine W.eq (g2 := F0 m 107 ls [.int (nI ((va_up (zP r) j ((zP r j) + 1)) j))]) (by rw [cl_nI (by omega)]) ?_
        exact W.iret (v := nI (va_up (zP r) j (zP r j + 1) j)) hx hb hr (fun t ht hW => ⟨⟨nI (va_up (zP r) j (zP r j + 1) j), (0, zC r, zCpL (zW r) (zAt r j 0) (zAt r j 0 + 32) 32, zG r, va_up (zP r) j ((zP r j) + 1), zS r, zCpB (zH r) (zAt r j 0) (zAt r j 0 + 32) 32, zR r, zO r, zD r, zL r), rfl, by rw [hup]; unfold zSave; rw [hq]; dsimp only; rw [if_neg (by rw [ho]; decide)]; rw [if_neg h1], by show va_P (dC, dI) vwC _ t.heap; rw [ht]; exact hP⟩, hS.F ht⟩) hS.2.2 d_M_save_107
set_option maxHeartbeats 4000000 in
set_option maxRecDepth 100000 in
theorem m_M_keep (l : Launch) (dC : Nat → ClassId) (dI : Nat → Nat → Nat) (k : Nat → ClassId) (a : Nat → Nat) (sz : Nat) (r : xRS) (tt : Int32) (hok : mOk r) : Met l y_M_keep w_M_keep (rmx 2 0 0 80) (mPc dC dI k a sz r [.ref (a 0), .int tt]) (va_Qv (fun u => u = zKeep r tt) (mB dC dI k a) (va_A (mW k a r) sz)) 0 0 (va_A (mW k a r) sz) := by
  refine Met.ofW (cc := c_M_keep) (maxL := 2) (ret := none) (by decide) rfl ?_
  intro p e s m args below meth c s₁ B hml hv
  obtain ⟨rfl, hsz, hP, hK, hD0⟩ := hv
  have hx := B.exec
  have hb := B.bytes
  have hr := B.returns
  have hts := atoms_spec (ws := w_M_keep) B.pre
  have hB : ∀ w ∈ BIG, w.before _ s = true := fun w h => hts w (List.mem_cons_of_mem _ h)
  have hown : s.vm.findClass R_M = some m.cls := findClass_of_methodNamed B.named
  have hlocks := B.notSynchronized
  have hl := lv_entry ([.ref (a 0), .int tt]) (n := 2) (Nat.le_of_ble_eq_true rfl)
  rw [lg_entry_eq]
  generalize (lg_sl ([.ref (a 0), .int tt]) ++ List.replicate (2 - (lg_sl ([.ref (a 0), .int tt])).length) Slot.unset).toArray = ls at hl ⊢
  have hl : lv_has ls 2 [(0, .ref (a 0)), (1, .int tt)] := hl
  subst hsz
  have hD := hD0.self (sz := s.heap.size)
  generalize hAe : va_A (mW k a r) s.heap.size = A at hD ⊢
  have hA : ∀ q : Nat, s.heap.size ≤ q → A q := fun q h => by rw [← hAe]; exact Or.inr h
  have hS : va_S A s.heap s.heap [] := va_S.rf
  have hDk := hD
  cases hq : ix 8 tt with
  | none =>
    refine lv_aload_n hx hb d_M_keep_0 rfl (lv_at hl 0 rfl) ?_
    refine lv_iconst (v := 0) hx hb d_M_keep_1 (by decide) ?_
    refine va_put (D := (dC, dI)) (ci := 2) (v := .int 0) (ty := .int) (C := R_M) (T := F_M) (N := 11) hx hb hB in_M tf_M ty_M nm_M hown hK hP hD hS 0 rfl rfl 0 (by decide) (hB _ bw_355) (fun _ h9 => h9) rfl (by decide +kernel) rfl rfl (Nat.le_of_ble_eq_true rfl) d_M_keep_2 (fun H locs hP hD hS => ?_)
    have hP : va_P (dC, dI) vwC (mW k a (0, zC r, zW r, zG r, zP r, zS r, zH r, zR r, zO r, zD r, zL r)) H := hP
    have hD : va_D A (mW k a (0, zC r, zW r, zG r, zP r, zS r, zH r, zR r, zO r, zD r, zL r)) := hD
    refine lv_aload_n hx hb d_M_keep_5 rfl (lv_at hl 0 rfl) ?_
    refine lv_iload_n hx hb d_M_keep_6 rfl (lv_at hl 1 rfl) ?_
    refine vp_callSi (va_Run.run (va_runS (As := [.int tt]) (rest := [.ref (a 0)]) ⟨hx, hb, hml, hown, hB⟩ (m_M_isOne l tt) (va_cwS 1 hB (BIG_SS bw_387 bw_388 bw_18 bw_389) rfl rfl rfl ⟨by decide, by decide, by decide +kernel⟩ ⟨Nat.le_of_ble_eq_true rfl, Nat.le_of_ble_eq_true rfl⟩) preEq rfl rfl hl.1 rfl (lv_room (Nat.le_of_ble_eq_true rfl)) d_M_keep_7 ⟨Nat.zero_le _, Nat.zero_le _⟩)) (fun r7 hr7 => ?_)
    refine W.eq (g2 := F0 m 10 ls [.int (bI false), .ref (a 0)]) (by rw [hr7, hq]; rfl) ?_
    refine lv_if_ne hx hb d_M_keep_10 rfl (fun h9 => absurd h9 (by decide)) (fun _ => ?_)
    refine lv_iconst (v := bI true) hx hb d_M_keep_13 (by decide) ?_
    refine lv_goto hx hb d_M_keep_14 rfl ?_
    refine lv_iconst (v := 1) hx hb d_M_keep_18 (by decide) ?_
    have hFc := va_free (wc := mW k a (0, zC r, zW r, zG r, zP r, zS r, zH r, zR r, zO r, zD r, zL r)) hD hS hA [0, 1, 2, 3, 4, 5, 6, 7, 8] rfl
    refine va_calli (va_runV (As := [.int (bI true), .int 1]) (rest := []) ⟨hx, hb, hml, hown, hB⟩ (m_M_fails_t l dC dI k a _ (0, zC r, zW r, zG r, zP r, zS r, zH r, zR r, zO r, zD r, zL r) 1 rfl (by decide)) (cwV 2 hB (BIG_V bw_394 bw_395 bw_10 bw_18 bw_396) rfl rfl rfl ⟨rfl, by decide, by decide, by decide +kernel⟩ ⟨Nat.le_of_ble_eq_true rfl, Nat.le_of_ble_eq_true rfl⟩) (mPc_pre _ hP hK hD) rfl rfl hl.1 rfl (lv_room (Nat.le_of_ble_eq_true rfl)) d_M_keep_19 ⟨Nat.zero_le _, Nat.zero_le _⟩) hS (fun q _ h => hFc q h) hFc (fun r7 u t H1 locs ht hvm hw hB1 hz1 hk1 hS => ?_)
    obtain ⟨hw1, hw2⟩ := hw
    subst hw1
    subst hw2
    have hP : va_P (dC, dI) vwC (mW k a (zErr (0, zC r, zW r, zG r, zP r, zS r, zH r, zR r, zO r, zD r, zL r) 1)) H1 := by rw [← ht]; exact hB1
    have hD : va_D A (mW k a (zErr (0, zC r, zW r, zG r, zP r, zS r, zH r, zR r, zO r, zD r, zL r) 1)) := mW_D hDk
    clear hFc hB1 hk1 hz1 ht hvm
    generalize H1 = H at hP hS ⊢
    have hP : va_P (dC, dI) vwC (mW k a (1, zC r, zW r, zG r, zP r, zS r, zH r, zR r, zO r, zD r, zL r)) H := hP
    have hD : va_D A (mW k a (1, zC r, zW r, zG r, zP r, zS r, zH r, zR r, zO r, zD r, zL r)) := hD
    refine lv_if_ne hx hb d_M_keep_22 rfl (fun _ => ?_) (fun h9 => absurd h9 (by decide))
    exact W.vret hx hb hr (fun t ht hW => ⟨⟨(1, zC r, zW r, zG r, zP r, zS r, zH r, zR r, zO r, zD r, zL r), rfl, by unfold zKeep; rw [hq]; first | done | rfl, by show va_P (dC, dI) vwC _ t.heap; rw [ht]; exact hP⟩, hS.F ht⟩) hS.2.2 d_M_keep_70
  | some j =>
    obtain ⟨hj, htj⟩ := ix_some (by decide) hq
    subst htj
    cases ho : zO r j with
    | false =>
      refine lv_aload_n hx hb d_M_keep_0 rfl (lv_at hl 0 rfl) ?_
      refine lv_iconst (v := 0) hx hb d_M_keep_1 (by decide) ?_
      refine va_put (D := (dC, dI)) (ci := 2) (v := .int 0) (ty := .int) (C := R_M) (T := F_M) (N := 11) hx hb hB in_M tf_M ty_M nm_M hown hK hP hD hS 0 rfl rfl 0 (by decide) (hB _ bw_355) (fun _ h9 => h9) rfl (by decide +kernel) rfl rfl (Nat.le_of_ble_eq_true rfl) d_M_keep_2 (fun H locs hP hD hS => ?_)
      have hP : va_P (dC, dI) vwC (mW k a (0, zC r, zW r, zG r, zP r, zS r, zH r, zR r, zO r, zD r, zL r)) H := hP
      have hD : va_D A (mW k a (0, zC r, zW r, zG r, zP r, zS r, zH r, zR r, zO r, zD r, zL r)) := hD
      refine lv_aload_n hx hb d_M_keep_5 rfl (lv_at hl 0 rfl) ?_
      refine lv_iload_n hx hb d_M_keep_6 rfl (lv_at hl 1 rfl) ?_
      refine vp_callSi (va_Run.run (va_runS (As := [.int (nI j)]) (rest := [.ref (a 0)]) ⟨hx, hb, hml, hown, hB⟩ (m_M_isOne l (nI j)) (va_cwS 1 hB (BIG_SS bw_387 bw_388 bw_18 bw_389) rfl rfl rfl ⟨by decide, by decide, by decide +kernel⟩ ⟨Nat.le_of_ble_eq_true rfl, Nat.le_of_ble_eq_true rfl⟩) preEq rfl rfl hl.1 rfl (lv_room (Nat.le_of_ble_eq_true rfl)) d_M_keep_7 ⟨Nat.zero_le _, Nat.zero_le _⟩)) (fun r7 hr7 => ?_)
      refine W.eq (g2 := F0 m 10 ls [.int (bI true), .ref (a 0)]) (by rw [hr7, hq]; rfl) ?_
      refine lv_if_ne hx hb d_M_keep_10 rfl (fun _ => ?_) (fun h9 => absurd h9 (by decide))
      refine lv_iconst (v := bI false) hx hb d_M_keep_17 (by decide) ?_
      refine lv_iconst (v := 1) hx hb d_M_keep_18 (by decide) ?_
      have hFc := va_free (wc := mW k a (0, zC r, zW r, zG r, zP r, zS r, zH r, zR r, zO r, zD r, zL r)) hD hS hA [0, 1, 2, 3, 4, 5, 6, 7, 8] rfl
      refine va_calli (va_runV (As := [.int (bI false), .int 1]) (rest := []) ⟨hx, hb, hml, hown, hB⟩ (m_M_fails_f l dC dI k a _ (0, zC r, zW r, zG r, zP r, zS r, zH r, zR r, zO r, zD r, zL r) 1 rfl) (cwV 2 hB (BIG_V bw_394 bw_395 bw_10 bw_18 bw_396) rfl rfl rfl ⟨rfl, by decide, by decide, by decide +kernel⟩ ⟨Nat.le_of_ble_eq_true rfl, Nat.le_of_ble_eq_true rfl⟩) (mPc_pre _ hP hK hD) rfl rfl hl.1 rfl (lv_room (Nat.le_of_ble_eq_true rfl)) d_M_keep_19 ⟨Nat.zero_le _, Nat.zero_le _⟩) hS (fun q _ h => hFc q h) hFc (fun r7 u t H1 locs ht hvm hw hB1 hz1 hk1 hS => ?_)
      obtain ⟨hw1, hw2⟩ := hw
      subst hw1
      subst hw2
      have hP : va_P (dC, dI) vwC (mW k a (0, zC r, zW r, zG r, zP r, zS r, zH r, zR r, zO r, zD r, zL r)) H1 := by rw [← ht]; exact hB1
      have hD : va_D A (mW k a (0, zC r, zW r, zG r, zP r, zS r, zH r, zR r, zO r, zD r, zL r)) := mW_D hDk
      clear hFc hB1 hk1 hz1 ht hvm
      generalize H1 = H at hP hS ⊢
      refine lv_if_ne hx hb d_M_keep_22 rfl (fun h9 => absurd h9 (by decide)) (fun _ => ?_)
      refine lv_aload_n hx hb d_M_keep_25 rfl (lv_at hl 0 rfl) ?_
      refine lv_aload_n hx hb d_M_keep_26 rfl (lv_at hl 0 rfl) ?_
      refine va_get (D := (dC, dI)) (ci := 2) (v := .ref (a 8)) (C := R_M) (T := F_M) (N := 11) hx hb hB in_M hown hK hP 0 rfl rfl 8 (by decide) (hB _ bw_363) (fun _ h9 => h9) rfl d_M_keep_27 ?_
      refine lv_iload_n hx hb d_M_keep_30 rfl (lv_at hl 1 rfl) ?_
      refine va_zald hx hb hK hP 8 4 rfl rfl (pk_in j 8 (by omega)) d_M_keep_31 ?_
      refine W.eq (g2 := F0 m 32 ls [.int (bI (zO r j)), .ref (a 0)]) (by rw [cl_nI (by omega)]) ?_
      refine W.eq (g2 := F0 m 32 ls [.int (bI false), .ref (a 0)]) (by rw [ho]) ?_
      refine lv_if_ne hx hb d_M_keep_32 rfl (fun h9 => absurd h9 (by decide)) (fun _ => ?_)
      refine lv_iconst (v := bI true) hx hb d_M_keep_35 (by decide) ?_
      refine lv_goto hx hb d_M_keep_36 rfl ?_
      refine lv_iconst (v := 2) hx hb d_M_keep_40 (by decide) ?_
      have hFc := va_free (wc := mW k a (0, zC r, zW r, zG r, zP r, zS r, zH r, zR r, zO r, zD r, zL r)) hD hS hA [0, 1, 2, 3, 4, 5, 6, 7, 8] rfl
      refine va_calli (va_runV (As := [.int (bI true), .int 2]) (rest := []) ⟨hx, hb, hml, hown, hB⟩ (m_M_fails_t l dC dI k a _ (0, zC r, zW r, zG r, zP r, zS r, zH r, zR r, zO r, zD r, zL r) 2 rfl (by decide)) (cwV 2 hB (BIG_V bw_394 bw_395 bw_10 bw_18 bw_396) rfl rfl rfl ⟨rfl, by decide, by decide, by decide +kernel⟩ ⟨Nat.le_of_ble_eq_true rfl, Nat.le_of_ble_eq_true rfl⟩) (mPc_pre _ hP hK hD) rfl rfl hl.1 rfl (lv_room (Nat.le_of_ble_eq_true rfl)) d_M_keep_41 ⟨Nat.zero_le _, Nat.zero_le _⟩) hS (fun q _ h => hFc q h) hFc (fun r7 u t H1 locs ht hvm hw hB1 hz1 hk1 hS => ?_)
      obtain ⟨hw1, hw2⟩ := hw
      subst hw1
      subst hw2
      have hP : va_P (dC, dI) vwC (mW k a (zErr (0, zC r, zW r, zG r, zP r, zS r, zH r, zR r, zO r, zD r, zL r) 2)) H1 := by rw [← ht]; exact hB1
      have hD : va_D A (mW k a (zErr (0, zC r, zW r, zG r, zP r, zS r, zH r, zR r, zO r, zD r, zL r) 2)) := mW_D hDk
      clear hFc hB1 hk1 hz1 ht hvm
      generalize H1 = H at hP hS ⊢
      have hP : va_P (dC, dI) vwC (mW k a (2, zC r, zW r, zG r, zP r, zS r, zH r, zR r, zO r, zD r, zL r)) H := hP
      have hD : va_D A (mW k a (2, zC r, zW r, zG r, zP r, zS r, zH r, zR r, zO r, zD r, zL r)) := hD
      refine lv_if_ne hx hb d_M_keep_44 rfl (fun _ => ?_) (fun h9 => absurd h9 (by decide))
      exact W.vret hx hb hr (fun t ht hW => ⟨⟨(2, zC r, zW r, zG r, zP r, zS r, zH r, zR r, zO r, zD r, zL r), rfl, by unfold zKeep; rw [hq]; dsimp only; rw [if_pos ho]; first | done | rfl, by show va_P (dC, dI) vwC _ t.heap; rw [ht]; exact hP⟩, hS.F ht⟩) hS.2.2 d_M_keep_70
    | true =>
      obtain ⟨hp1, hp5⟩ := hok j hj ho
      by_cases h1 : zP r j = 1
      · have h2 : nI (zP r j) = nI 1 := by rw [h1]
        refine lv_aload_n hx hb d_M_keep_0 rfl (lv_at hl 0 rfl) ?_
        refine lv_iconst (v := 0) hx hb d_M_keep_1 (by decide) ?_
        refine va_put (D := (dC, dI)) (ci := 2) (v := .int 0) (ty := .int) (C := R_M) (T := F_M) (N := 11) hx hb hB in_M tf_M ty_M nm_M hown hK hP hD hS 0 rfl rfl 0 (by decide) (hB _ bw_355) (fun _ h9 => h9) rfl (by decide +kernel) rfl rfl (Nat.le_of_ble_eq_true rfl) d_M_keep_2 (fun H locs hP hD hS => ?_)
        have hP : va_P (dC, dI) vwC (mW k a (0, zC r, zW r, zG r, zP r, zS r, zH r, zR r, zO r, zD r, zL r)) H := hP
        have hD : va_D A (mW k a (0, zC r, zW r, zG r, zP r, zS r, zH r, zR r, zO r, zD r, zL r)) := hD
        refine lv_aload_n hx hb d_M_keep_5 rfl (lv_at hl 0 rfl) ?_
        refine lv_iload_n hx hb d_M_keep_6 rfl (lv_at hl 1 rfl) ?_
        refine vp_callSi (va_Run.run (va_runS (As := [.int (nI j)]) (rest := [.ref (a 0)]) ⟨hx, hb, hml, hown, hB⟩ (m_M_isOne l (nI j)) (va_cwS 1 hB (BIG_SS bw_387 bw_388 bw_18 bw_389) rfl rfl rfl ⟨by decide, by decide, by decide +kernel⟩ ⟨Nat.le_of_ble_eq_true rfl, Nat.le_of_ble_eq_true rfl⟩) preEq rfl rfl hl.1 rfl (lv_room (Nat.le_of_ble_eq_true rfl)) d_M_keep_7 ⟨Nat.zero_le _, Nat.zero_le _⟩)) (fun r7 hr7 => ?_)
        refine W.eq (g2 := F0 m 10 ls [.int (bI true), .ref (a 0)]) (by rw [hr7, hq]; rfl) ?_
        refine lv_if_ne hx hb d_M_keep_10 rfl (fun _ => ?_) (fun h9 => absurd h9 (by decide))
        refine lv_iconst (v := bI false) hx hb d_M_keep_17 (by decide) ?_
        refine lv_iconst (v := 1) hx hb d_M_keep_18 (by decide) ?_
        have hFc := va_free (wc := mW k a (0, zC r, zW r, zG r, zP r, zS r, zH r, zR r, zO r, zD r, zL r)) hD hS hA [0, 1, 2, 3, 4, 5, 6, 7, 8] rfl
        refine va_calli (va_runV (As := [.int (bI false), .int 1]) (rest := []) ⟨hx, hb, hml, hown, hB⟩ (m_M_fails_f l dC dI k a _ (0, zC r, zW r, zG r, zP r, zS r, zH r, zR r, zO r, zD r, zL r) 1 rfl) (cwV 2 hB (BIG_V bw_394 bw_395 bw_10 bw_18 bw_396) rfl rfl rfl ⟨rfl, by decide, by decide, by decide +kernel⟩ ⟨Nat.le_of_ble_eq_true rfl, Nat.le_of_ble_eq_true rfl⟩) (mPc_pre _ hP hK hD) rfl rfl hl.1 rfl (lv_room (Nat.le_of_ble_eq_true rfl)) d_M_keep_19 ⟨Nat.zero_le _, Nat.zero_le _⟩) hS (fun q _ h => hFc q h) hFc (fun r7 u t H1 locs ht hvm hw hB1 hz1 hk1 hS => ?_)
        obtain ⟨hw1, hw2⟩ := hw
        subst hw1
        subst hw2
        have hP : va_P (dC, dI) vwC (mW k a (0, zC r, zW r, zG r, zP r, zS r, zH r, zR r, zO r, zD r, zL r)) H1 := by rw [← ht]; exact hB1
        have hD : va_D A (mW k a (0, zC r, zW r, zG r, zP r, zS r, zH r, zR r, zO r, zD r, zL r)) := mW_D hDk
        clear hFc hB1 hk1 hz1 ht hvm
        generalize H1 = H at hP hS ⊢
        refine lv_if_ne hx hb d_M_keep_22 rfl (fun h9 => absurd h9 (by decide)) (fun _ => ?_)
        refine lv_aload_n hx hb d_M_keep_25 rfl (lv_at hl 0 rfl) ?_
        refine lv_aload_n hx hb d_M_keep_26 rfl (lv_at hl 0 rfl) ?_
        refine va_get (D := (dC, dI)) (ci := 2) (v := .ref (a 8)) (C := R_M) (T := F_M) (N := 11) hx hb hB in_M hown hK hP 0 rfl rfl 8 (by decide) (hB _ bw_363) (fun _ h9 => h9) rfl d_M_keep_27 ?_
        refine lv_iload_n hx hb d_M_keep_30 rfl (lv_at hl 1 rfl) ?_
        refine va_zald hx hb hK hP 8 4 rfl rfl (pk_in j 8 (by omega)) d_M_keep_31 ?_
        refine W.eq (g2 := F0 m 32 ls [.int (bI (zO r j)), .ref (a 0)]) (by rw [cl_nI (by omega)]) ?_
        refine W.eq (g2 := F0 m 32 ls [.int (bI true), .ref (a 0)]) (by rw [ho]) ?_
        refine lv_if_ne hx hb d_M_keep_32 rfl (fun _ => ?_) (fun h9 => absurd h9 (by decide))
        refine lv_iconst (v := bI false) hx hb d_M_keep_39 (by decide) ?_
        refine lv_iconst (v := 2) hx hb d_M_keep_40 (by decide) ?_
        have hFc := va_free (wc := mW k a (0, zC r, zW r, zG r, zP r, zS r, zH r, zR r, zO r, zD r, zL r)) hD hS hA [0, 1, 2, 3, 4, 5, 6, 7, 8] rfl
        refine va_calli (va_runV (As := [.int (bI false), .int 2]) (rest := []) ⟨hx, hb, hml, hown, hB⟩ (m_M_fails_f l dC dI k a _ (0, zC r, zW r, zG r, zP r, zS r, zH r, zR r, zO r, zD r, zL r) 2 rfl) (cwV 2 hB (BIG_V bw_394 bw_395 bw_10 bw_18 bw_396) rfl rfl rfl ⟨rfl, by decide, by decide, by decide +kernel⟩ ⟨Nat.le_of_ble_eq_true rfl, Nat.le_of_ble_eq_true rfl⟩) (mPc_pre _ hP hK hD) rfl rfl hl.1 rfl (lv_room (Nat.le_of_ble_eq_true rfl)) d_M_keep_41 ⟨Nat.zero_le _, Nat.zero_le _⟩) hS (fun q _ h => hFc q h) hFc (fun r7 u t H1 locs ht hvm hw hB1 hz1 hk1 hS => ?_)
        obtain ⟨hw1, hw2⟩ := hw
        subst hw1
        subst hw2
        have hP : va_P (dC, dI) vwC (mW k a (0, zC r, zW r, zG r, zP r, zS r, zH r, zR r, zO r, zD r, zL r)) H1 := by rw [← ht]; exact hB1
        have hD : va_D A (mW k a (0, zC r, zW r, zG r, zP r, zS r, zH r, zR r, zO r, zD r, zL r)) := mW_D hDk
        clear hFc hB1 hk1 hz1 ht hvm
        generalize H1 = H at hP hS ⊢
        refine lv_if_ne hx hb d_M_keep_44 rfl (fun h9 => absurd h9 (by decide)) (fun _ => ?_)
        refine lv_aload_n hx hb d_M_keep_47 rfl (lv_at hl 0 rfl) ?_
        refine lv_aload_n hx hb d_M_keep_48 rfl (lv_at hl 0 rfl) ?_
        refine va_get (D := (dC, dI)) (ci := 2) (v := .ref (a 4)) (C := R_M) (T := F_M) (N := 11) hx hb hB in_M hown hK hP 0 rfl rfl 4 (by decide) (hB _ bw_359) (fun _ h9 => h9) rfl d_M_keep_49 ?_
        refine lv_iload_n hx hb d_M_keep_52 rfl (lv_at hl 1 rfl) ?_
        refine va_iald hx hb hK hP 4 0 rfl rfl (pk_in j 8 (by omega)) d_M_keep_53 ?_
        refine W.eq (g2 := F0 m 54 ls [.int (nI (zP r j)), .ref (a 0)]) (by rw [cl_nI (by omega)]) ?_
        refine lv_iconst (v := nI 1) hx hb d_M_keep_54 (by decide) ?_
        refine lv_icmp_ne hx hb d_M_keep_55 rfl (fun h9 => absurd h9 (fun q => q h2)) (fun _ => ?_)
        refine lv_iconst (v := bI true) hx hb d_M_keep_58 (by decide) ?_
        refine lv_goto hx hb d_M_keep_59 rfl ?_
        refine lv_iconst (v := 3) hx hb d_M_keep_63 (by decide) ?_
        have hFc := va_free (wc := mW k a (0, zC r, zW r, zG r, zP r, zS r, zH r, zR r, zO r, zD r, zL r)) hD hS hA [0, 1, 2, 3, 4, 5, 6, 7, 8] rfl
        refine va_calli (va_runV (As := [.int (bI true), .int 3]) (rest := []) ⟨hx, hb, hml, hown, hB⟩ (m_M_fails_t l dC dI k a _ (0, zC r, zW r, zG r, zP r, zS r, zH r, zR r, zO r, zD r, zL r) 3 rfl (by decide)) (cwV 2 hB (BIG_V bw_394 bw_395 bw_10 bw_18 bw_396) rfl rfl rfl ⟨rfl, by decide, by decide, by decide +kernel⟩ ⟨Nat.le_of_ble_eq_true rfl, Nat.le_of_ble_eq_true rfl⟩) (mPc_pre _ hP hK hD) rfl rfl hl.1 rfl (lv_room (Nat.le_of_ble_eq_true rfl)) d_M_keep_64 ⟨Nat.zero_le _, Nat.zero_le _⟩) hS (fun q _ h => hFc q h) hFc (fun r7 u t H1 locs ht hvm hw hB1 hz1 hk1 hS => ?_)
        obtain ⟨hw1, hw2⟩ := hw
        subst hw1
        subst hw2
        have hP : va_P (dC, dI) vwC (mW k a (zErr (0, zC r, zW r, zG r, zP r, zS r, zH r, zR r, zO r, zD r, zL r) 3)) H1 := by rw [← ht]; exact hB1
        have hD : va_D A (mW k a (zErr (0, zC r, zW r, zG r, zP r, zS r, zH r, zR r, zO r, zD r, zL r) 3)) := mW_D hDk
        clear hFc hB1 hk1 hz1 ht hvm
        generalize H1 = H at hP hS ⊢
        have hP : va_P (dC, dI) vwC (mW k a (3, zC r, zW r, zG r, zP r, zS r, zH r, zR r, zO r, zD r, zL r)) H := hP
        have hD : va_D A (mW k a (3, zC r, zW r, zG r, zP r, zS r, zH r, zR r, zO r, zD r, zL r)) := hD
        refine lv_if_eq hx hb d_M_keep_67 rfl (fun h9 => absurd h9 (by decide)) (fun _ => ?_)
        exact W.vret hx hb hr (fun t ht hW => ⟨⟨(3, zC r, zW r, zG r, zP r, zS r, zH r, zR r, zO r, zD r, zL r), rfl, by unfold zKeep; rw [hq]; dsimp only; rw [if_neg (by rw [ho]; decide)]; rw [if_pos h1]; first | done | rfl, by show va_P (dC, dI) vwC _ t.heap; rw [ht]; exact hP⟩, hS.F ht⟩) hS.2.2 d_M_keep_70
      · have h2 : ¬ nI (zP r j) = nI 1 := fun q => h1 ((nI_eq (by omega) (by omega)).mp q)
        have hup : va_up (zP r) j (zP r j - 1) j = zP r j - 1 := va_up_self _ _ _
        have hat : (5 * j + zP r j - 1) * 32 + 32 ≤ 1280 := by omega
        have hz0 : zAt r j 0 + 32 ≤ 1280 ∧ 32 ≤ zAt r j 0 + 32 := by unfold zAt; omega
        have hz1 : 32 ≤ zAt r j 0 := by unfold zAt; omega
        refine lv_aload_n hx hb d_M_keep_0 rfl (lv_at hl 0 rfl) ?_
        refine lv_iconst (v := 0) hx hb d_M_keep_1 (by decide) ?_
        refine va_put (D := (dC, dI)) (ci := 2) (v := .int 0) (ty := .int) (C := R_M) (T := F_M) (N := 11) hx hb hB in_M tf_M ty_M nm_M hown hK hP hD hS 0 rfl rfl 0 (by decide) (hB _ bw_355) (fun _ h9 => h9) rfl (by decide +kernel) rfl rfl (Nat.le_of_ble_eq_true rfl) d_M_keep_2 (fun H locs hP hD hS => ?_)
        have hP : va_P (dC, dI) vwC (mW k a (0, zC r, zW r, zG r, zP r, zS r, zH r, zR r, zO r, zD r, zL r)) H := hP
        have hD : va_D A (mW k a (0, zC r, zW r, zG r, zP r, zS r, zH r, zR r, zO r, zD r, zL r)) := hD
        refine lv_aload_n hx hb d_M_keep_5 rfl (lv_at hl 0 rfl) ?_
        refine lv_iload_n hx hb d_M_keep_6 rfl (lv_at hl 1 rfl) ?_
        refine vp_callSi (va_Run.run (va_runS (As := [.int (nI j)]) (rest := [.ref (a 0)]) ⟨hx, hb, hml, hown, hB⟩ (m_M_isOne l (nI j)) (va_cwS 1 hB (BIG_SS bw_387 bw_388 bw_18 bw_389) rfl rfl rfl ⟨by decide, by decide, by decide +kernel⟩ ⟨Nat.le_of_ble_eq_true rfl, Nat.le_of_ble_eq_true rfl⟩) preEq rfl rfl hl.1 rfl (lv_room (Nat.le_of_ble_eq_true rfl)) d_M_keep_7 ⟨Nat.zero_le _, Nat.zero_le _⟩)) (fun r7 hr7 => ?_)
        refine W.eq (g2 := F0 m 10 ls [.int (bI true), .ref (a 0)]) (by rw [hr7, hq]; rfl) ?_
        refine lv_if_ne hx hb d_M_keep_10 rfl (fun _ => ?_) (fun h9 => absurd h9 (by decide))
        refine lv_iconst (v := bI false) hx hb d_M_keep_17 (by decide) ?_
        refine lv_iconst (v := 1) hx hb d_M_keep_18 (by decide) ?_
        have hFc := va_free (wc := mW k a (0, zC r, zW r, zG r, zP r, zS r, zH r, zR r, zO r, zD r, zL r)) hD hS hA [0, 1, 2, 3, 4, 5, 6, 7, 8] rfl
        refine va_calli (va_runV (As := [.int (bI false), .int 1]) (rest := []) ⟨hx, hb, hml, hown, hB⟩ (m_M_fails_f l dC dI k a _ (0, zC r, zW r, zG r, zP r, zS r, zH r, zR r, zO r, zD r, zL r) 1 rfl) (cwV 2 hB (BIG_V bw_394 bw_395 bw_10 bw_18 bw_396) rfl rfl rfl ⟨rfl, by decide, by decide, by decide +kernel⟩ ⟨Nat.le_of_ble_eq_true rfl, Nat.le_of_ble_eq_true rfl⟩) (mPc_pre _ hP hK hD) rfl rfl hl.1 rfl (lv_room (Nat.le_of_ble_eq_true rfl)) d_M_keep_19 ⟨Nat.zero_le _, Nat.zero_le _⟩) hS (fun q _ h => hFc q h) hFc (fun r7 u t H1 locs ht hvm hw hB1 hz1 hk1 hS => ?_)
        obtain ⟨hw1, hw2⟩ := hw
        subst hw1
        subst hw2
        have hP : va_P (dC, dI) vwC (mW k a (0, zC r, zW r, zG r, zP r, zS r, zH r, zR r, zO r, zD r, zL r)) H1 := by rw [← ht]; exact hB1
        have hD : va_D A (mW k a (0, zC r, zW r, zG r, zP r, zS r, zH r, zR r, zO r, zD r, zL r)) := mW_D hDk
        clear hFc hB1 hk1 hz1 ht hvm
        generalize H1 = H at hP hS ⊢
        refine lv_if_ne hx hb d_M_keep_22 rfl (fun h9 => absurd h9 (by decide)) (fun _ => ?_)
        refine lv_aload_n hx hb d_M_keep_25 rfl (lv_at hl 0 rfl) ?_
        refine lv_aload_n hx hb d_M_keep_26 rfl (lv_at hl 0 rfl) ?_
        refine va_get (D := (dC, dI)) (ci := 2) (v := .ref (a 8)) (C := R_M) (T := F_M) (N := 11) hx hb hB in_M hown hK hP 0 rfl rfl 8 (by decide) (hB _ bw_363) (fun _ h9 => h9) rfl d_M_keep_27 ?_
        refine lv_iload_n hx hb d_M_keep_30 rfl (lv_at hl 1 rfl) ?_
        refine va_zald hx hb hK hP 8 4 rfl rfl (pk_in j 8 (by omega)) d_M_keep_31 ?_
        refine W.eq (g2 := F0 m 32 ls [.int (bI (zO r j)), .ref (a 0)]) (by rw [cl_nI (by omega)]) ?_
        refine W.eq (g2 := F0 m 32 ls [.int (bI true), .ref (a 0)]) (by rw [ho]) ?_
        refine lv_if_ne hx hb d_M_keep_32 rfl (fun _ => ?_) (fun h9 => absurd h9 (by decide))
        refine lv_iconst (v := bI false) hx hb d_M_keep_39 (by decide) ?_
        refine lv_iconst (v := 2) hx hb d_M_keep_40 (by decide) ?_
        have hFc := va_free (wc := mW k a (0, zC r, zW r, zG r, zP r, zS r, zH r, zR r, zO r, zD r, zL r)) hD hS hA [0, 1, 2, 3, 4, 5, 6, 7, 8] rfl
        refine va_calli (va_runV (As := [.int (bI false), .int 2]) (rest := []) ⟨hx, hb, hml, hown, hB⟩ (m_M_fails_f l dC dI k a _ (0, zC r, zW r, zG r, zP r, zS r, zH r, zR r, zO r, zD r, zL r) 2 rfl) (cwV 2 hB (BIG_V bw_394 bw_395 bw_10 bw_18 bw_396) rfl rfl rfl ⟨rfl, by decide, by decide, by decide +kernel⟩ ⟨Nat.le_of_ble_eq_true rfl, Nat.le_of_ble_eq_true rfl⟩) (mPc_pre _ hP hK hD) rfl rfl hl.1 rfl (lv_room (Nat.le_of_ble_eq_true rfl)) d_M_keep_41 ⟨Nat.zero_le _, Nat.zero_le _⟩) hS (fun q _ h => hFc q h) hFc (fun r7 u t H1 locs ht hvm hw hB1 hz1 hk1 hS => ?_)
        obtain ⟨hw1, hw2⟩ := hw
        subst hw1
        subst hw2
        have hP : va_P (dC, dI) vwC (mW k a (0, zC r, zW r, zG r, zP r, zS r, zH r, zR r, zO r, zD r, zL r)) H1 := by rw [← ht]; exact hB1
        have hD : va_D A (mW k a (0, zC r, zW r, zG r, zP r, zS r, zH r, zR r, zO r, zD r, zL r)) := mW_D hDk
        clear hFc hB1 hk1 hz1 ht hvm
        generalize H1 = H at hP hS ⊢
        refine lv_if_ne hx hb d_M_keep_44 rfl (fun h9 => absurd h9 (by decide)) (fun _ => ?_)
        refine lv_aload_n hx hb d_M_keep_47 rfl (lv_at hl 0 rfl) ?_
        refine lv_aload_n hx hb d_M_keep_48 rfl (lv_at hl 0 rfl) ?_
        refine va_get (D := (dC, dI)) (ci := 2) (v := .ref (a 4)) (C := R_M) (T := F_M) (N := 11) hx hb hB in_M hown hK hP 0 rfl rfl 4 (by decide) (hB _ bw_359) (fun _ h9 => h9) rfl d_M_keep_49 ?_
        refine lv_iload_n hx hb d_M_keep_52 rfl (lv_at hl 1 rfl) ?_
        refine va_iald hx hb hK hP 4 0 rfl rfl (pk_in j 8 (by omega)) d_M_keep_53 ?_
        refine W.eq (g2 := F0 m 54 ls [.int (nI (zP r j)), .ref (a 0)]) (by rw [cl_nI (by omega)]) ?_
        refine lv_iconst (v := nI 1) hx hb d_M_keep_54 (by decide) ?_
        refine lv_icmp_ne hx hb d_M_keep_55 rfl (fun _ => ?_) (fun h9 => absurd h9 (h2))
        refine lv_iconst (v := bI false) hx hb d_M_keep_62 (by decide) ?_
        refine lv_iconst (v := 3) hx hb d_M_keep_63 (by decide) ?_
        have hFc := va_free (wc := mW k a (0, zC r, zW r, zG r, zP r, zS r, zH r, zR r, zO r, zD r, zL r)) hD hS hA [0, 1, 2, 3, 4, 5, 6, 7, 8] rfl
        refine va_calli (va_runV (As := [.int (bI false), .int 3]) (rest := []) ⟨hx, hb, hml, hown, hB⟩ (m_M_fails_f l dC dI k a _ (0, zC r, zW r, zG r, zP r, zS r, zH r, zR r, zO r, zD r, zL r) 3 rfl) (cwV 2 hB (BIG_V bw_394 bw_395 bw_10 bw_18 bw_396) rfl rfl rfl ⟨rfl, by decide, by decide, by decide +kernel⟩ ⟨Nat.le_of_ble_eq_true rfl, Nat.le_of_ble_eq_true rfl⟩) (mPc_pre _ hP hK hD) rfl rfl hl.1 rfl (lv_room (Nat.le_of_ble_eq_true rfl)) d_M_keep_64 ⟨Nat.zero_le _, Nat.zero_le _⟩) hS (fun q _ h => hFc q h) hFc (fun r7 u t H1 locs ht hvm hw hB1 hz1 hk1 hS => ?_)
        obtain ⟨hw1, hw2⟩ := hw
        subst hw1
        subst hw2
        have hP : va_P (dC, dI) vwC (mW k a (0, zC r, zW r, zG r, zP r, zS r, zH r, zR r, zO r, zD r, zL r)) H1 := by rw [← ht]; exact hB1
        have hD : va_D A (mW k a (0, zC r, zW r, zG r, zP r, zS r, zH r, zR r, zO r, zD r, zL r)) := mW_D hDk
        clear hFc hB1 hk1 hz1 ht hvm
        generalize H1 = H at hP hS ⊢
        refine lv_if_eq hx hb d_M_keep_67 rfl (fun _ => ?_) (fun h9 => absurd (by decide) h9)
        refine lv_aload_n hx hb d_M_keep_71 rfl (lv_at hl 0 rfl) ?_
        refine va_get (D := (dC, dI)) (ci := 2) (v := .ref (a 4)) (C := R_M) (T := F_M) (N := 11) hx hb hB in_M hown hK hP 0 rfl rfl 4 (by decide) (hB _ bw_359) (fun _ h9 => h9) rfl d_M_keep_72 ?_
        refine lv_iload_n hx hb d_M_keep_75 rfl (lv_at hl 1 rfl) ?_
        refine lv_dup2_11 hx hb d_M_keep_76 rfl rfl ?_
        refine va_iald hx hb hK hP 4 0 rfl rfl (pk_in j 8 (by omega)) d_M_keep_77 ?_
        refine W.eq (g2 := F0 m 78 ls [.int (nI (zP r j)), .int (nI j), .ref (a 4)]) (by rw [cl_nI (by omega)]) ?_
        refine lv_iconst (v := nI 1) hx hb d_M_keep_78 (by decide) ?_
        refine lv_isub hx hb d_M_keep_79 ?_
        refine W.eq (g2 := F0 m 80 ls [.int (nI ((zP r j) - 1)), .int (nI j), .ref (a 4)]) (by rw [pk_sub (by omega)]) ?_
        refine va_iast hx hb hK hP hD hS 4 0 rfl rfl (pk_in j 8 (by omega)) d_M_keep_80 (fun H locs hP hD hS => ?_)
        rw [cl_nI (by omega), nI_upd] at hP
        have hP : va_P (dC, dI) vwC (mW k a (0, zC r, zW r, zG r, va_up (zP r) j ((zP r j) - 1), zS r, zH r, zR r, zO r, zD r, zL r)) H := hP
        have hD : va_D A (mW k a (0, zC r, zW r, zG r, va_up (zP r) j ((zP r j) - 1), zS r, zH r, zR r, zO r, zD r, zL r)) := mW_D hDk
        refine lv_aload_n hx hb d_M_keep_81 rfl (lv_at hl 0 rfl) ?_
        refine lv_aload_n hx hb d_M_keep_82 rfl (lv_at hl 0 rfl) ?_
        refine lv_iload_n hx hb d_M_keep_83 rfl (lv_at hl 1 rfl) ?_
        refine lv_iconst (v := nI 0) hx hb d_M_keep_84 (by decide) ?_
        refine vp_callSi (va_Run.run (va_runV (As := [.int (nI j), .int (nI 0)]) (rest := [.ref (a 0)]) ⟨hx, hb, hml, hown, hB⟩ (m_M_last l dC dI k a (0, zC r, zW r, zG r, va_up (zP r) j ((zP r j) - 1), zS r, zH r, zR r, zO r, zD r, zL r) j 0 (by omega) (by omega) (by show 1 ≤ va_up (zP r) j (zP r j - 1) j; rw [hup]; omega) (by show va_up (zP r) j (zP r j - 1) j ≤ 5; rw [hup]; omega)) (cwV 2 hB (BIG_V bw_397 bw_398 bw_11 bw_18 bw_399) rfl rfl rfl ⟨rfl, by decide, by decide, by decide +kernel⟩ ⟨Nat.le_of_ble_eq_true rfl, Nat.le_of_ble_eq_true rfl⟩) (mRc_pre _ hP hK) rfl rfl hl.1 rfl (lv_room (Nat.le_of_ble_eq_true rfl)) d_M_keep_85 ⟨Nat.zero_le _, Nat.zero_le _⟩)) (fun r7 hr7 => ?_)
        refine W.eq (g2 := F0 m 88 ls [.int (nI (zAt r j 0 - 32)), .ref (a 0)]) (by rw [hr7]; show F0 _ _ _ (Value.int (nI ((5 * j + va_up (zP r) j (zP r j - 1) j - 1) * 32 + 0)) :: _) = _; rw [hup, show (5 * j + (zP r j - 1) - 1) * 32 + 0 = zAt r j 0 - 32 by unfold zAt; omega]) ?_
        refine lv_bipush (v := nI 32) hx hb d_M_keep_88 (by decide) ?_
        refine lv_iadd hx hb d_M_keep_90 ?_
        refine W.eq (g2 := F0 m 91 ls [.int (nI ((zAt r j 0 - 32) + 32)), .ref (a 0)]) (by rw [nI_add]) ?_
        refine lv_aload_n hx hb d_M_keep_91 rfl (lv_at hl 0 rfl) ?_
        refine lv_iload_n hx hb d_M_keep_92 rfl (lv_at hl 1 rfl) ?_
        refine lv_iconst (v := nI 0) hx hb d_M_keep_93 (by decide) ?_
        refine vp_callSi (va_Run.run (va_runV (As := [.int (nI j), .int (nI 0)]) (rest := [.int (nI ((zAt r j 0 - 32) + 32)), .ref (a 0)]) ⟨hx, hb, hml, hown, hB⟩ (m_M_last l dC dI k a (0, zC r, zW r, zG r, va_up (zP r) j ((zP r j) - 1), zS r, zH r, zR r, zO r, zD r, zL r) j 0 (by omega) (by omega) (by show 1 ≤ va_up (zP r) j (zP r j - 1) j; rw [hup]; omega) (by show va_up (zP r) j (zP r j - 1) j ≤ 5; rw [hup]; omega)) (cwV 2 hB (BIG_V bw_397 bw_398 bw_11 bw_18 bw_399) rfl rfl rfl ⟨rfl, by decide, by decide, by decide +kernel⟩ ⟨Nat.le_of_ble_eq_true rfl, Nat.le_of_ble_eq_true rfl⟩) (mRc_pre _ hP hK) rfl rfl hl.1 rfl (lv_room (Nat.le_of_ble_eq_true rfl)) d_M_keep_94 ⟨Nat.zero_le _, Nat.zero_le _⟩)) (fun r7 hr7 => ?_)
        refine W.eq (g2 := F0 m 97 ls [.int (nI (zAt r j 0 - 32)), .int (nI ((zAt r j 0 - 32) + 32)), .ref (a 0)]) (by rw [hr7]; show F0 _ _ _ (Value.int (nI ((5 * j + va_up (zP r) j (zP r j - 1) j - 1) * 32 + 0)) :: _) = _; rw [hup, show (5 * j + (zP r j - 1) - 1) * 32 + 0 = zAt r j 0 - 32 by unfold zAt; omega]) ?_
        refine W.eq (g2 := F0 m 97 ls [.int (nI (zAt r j 0 - 32)), .int (nI (zAt r j 0)), .ref (a 0)]) (by rw [show ((zAt r j 0 - 32) + 32) = zAt r j 0 by omega]) ?_
        have hFc := va_free (wc := mW k a (0, zC r, zW r, zG r, va_up (zP r) j ((zP r j) - 1), zS r, zH r, zR r, zO r, zD r, zL r)) hD hS hA [0, 1, 2, 3, 4, 5, 6, 7, 8] rfl
        refine va_callv (va_runV (As := [.int (nI (zAt r j 0)), .int (nI (zAt r j 0 - 32))]) (rest := []) ⟨hx, hb, hml, hown, hB⟩ (m_M_copy l dC dI k a _ (0, zC r, zW r, zG r, va_up (zP r) j ((zP r j) - 1), zS r, zH r, zR r, zO r, zD r, zL r) (zAt r j 0) (zAt r j 0 - 32) (by omega) (by omega)) (cwV 2 hB (BIG_V bw_419 bw_420 bw_13 bw_18 bw_421) rfl rfl rfl ⟨rfl, by decide, by decide, by decide +kernel⟩ ⟨Nat.le_of_ble_eq_true rfl, Nat.le_of_ble_eq_true rfl⟩) (mPc_pre _ hP hK hD) rfl rfl hl.1 rfl (lv_room (Nat.le_of_ble_eq_true rfl)) d_M_keep_97 ⟨Nat.zero_le _, Nat.zero_le _⟩) hS (fun q _ h => hFc q h) hFc (fun u t H1 locs ht hvm hw hB1 hz1 hk1 hS => ?_)
        subst hw
        have hP : va_P (dC, dI) vwC (mW k a (0, zC r, zCpL (zW r) (zAt r j 0) (zAt r j 0 - 32) 32, zG r, va_up (zP r) j (zP r j - 1), zS r, zCpB (zH r) (zAt r j 0) (zAt r j 0 - 32) 32, zR r, zO r, zD r, zL r)) H1 := by rw [← ht]; exact hB1
        have hD : va_D A (mW k a (0, zC r, zCpL (zW r) (zAt r j 0) (zAt r j 0 - 32) 32, zG r, va_up (zP r) j (zP r j - 1), zS r, zCpB (zH r) (zAt r j 0) (zAt r j 0 - 32) 32, zR r, zO r, zD r, zL r)) := mW_D hDk
        clear hFc hB1 hk1 hz1 ht hvm
        generalize H1 = H at hP hS ⊢
        exact W.vret hx hb hr (fun t ht hW => ⟨⟨(0, zC r, zCpL (zW r) (zAt r j 0) (zAt r j 0 - 32) 32, zG r, va_up (zP r) j ((zP r j) - 1), zS r, zCpB (zH r) (zAt r j 0) (zAt r j 0 - 32) 32, zR r, zO r, zD r, zL r), rfl, by unfold zKeep; rw [hq]; dsimp only; rw [if_neg (by rw [ho]; decide)]; rw [if_neg h1]; first | done | rfl, by show va_P (dC, dI) vwC _ t.heap; rw [ht]; exact hP⟩, hS.F ht⟩) hS.2.2 d_M_keep_100
