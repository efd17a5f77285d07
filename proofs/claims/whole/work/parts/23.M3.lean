/-! The reference: the methods with a loop. -/
theorem zSt_cg {r r2 : xRS} {t : Nat} (h1 : zR r = zR r2) (h2 : zS r = zS r2) (h3 : zG r = zG r2) : ∀ n, zSt r t n = zSt r2 t n
  | 0 => rfl
  | n + 1 => by
    show (zSt r t n || (zR r (32 * t + n) && decide (zS r (32 * t + n) ≠ zG r n))) = (zSt r2 t n || (zR r2 (32 * t + n) && decide (zS r2 (32 * t + n) ≠ zG r2 n)))
    rw [zSt_cg h1 h2 h3 n, h1, h2, h3]
set_option maxHeartbeats 4000000 in
set_option maxRecDepth 100000 in
theorem m_M_begin (l : Launch) (dC : Nat → ClassId) (dI : Nat → Nat → Nat) (k : Nat → ClassId) (a : Nat → Nat) (sz : Nat) (r : xRS) (tt : Int32) : Met l y_M_begin w_M_begin (rmx 2 0 0 80) (mPc dC dI k a sz r [.ref (a 0), .int tt]) (va_Qv (fun u => u = zBegin r tt) (mB dC dI k a) (va_A (mW k a r) sz)) 0 0 (va_A (mW k a r) sz) := by
  refine Met.ofW (cc := c_M_begin) (maxL := 3) (ret := none) (by decide) rfl ?_
  intro p e s m args below meth c s₁ B hml hv
  obtain ⟨rfl, hsz, hP, hK, hD0⟩ := hv
  have hx := B.exec
  have hb := B.bytes
  have hr := B.returns
  have hts := atoms_spec (ws := w_M_begin) B.pre
  have hB : ∀ w ∈ BIG, w.before _ s = true := fun w h => hts w (List.mem_cons_of_mem _ h)
  have hown : s.vm.findClass R_M = some m.cls := findClass_of_methodNamed B.named
  have hlocks := B.notSynchronized
  have hl := lv_entry ([.ref (a 0), .int tt]) (n := 3) (Nat.le_of_ble_eq_true rfl)
  rw [lg_entry_eq]
  generalize (lg_sl ([.ref (a 0), .int tt]) ++ List.replicate (3 - (lg_sl ([.ref (a 0), .int tt])).length) Slot.unset).toArray = ls at hl ⊢
  have hl : lv_has ls 3 [(0, .ref (a 0)), (1, .int tt)] := hl
  subst hsz
  have hD := hD0.self (sz := s.heap.size)
  generalize hAe : va_A (mW k a r) s.heap.size = A at hD ⊢
  have hA : ∀ q : Nat, s.heap.size ≤ q → A q := fun q h => by rw [← hAe]; exact Or.inr h
  have hS : va_S A s.heap s.heap [] := va_S.rf
  have hDk := hD
  cases hq : ix 8 tt with
  | none =>
    refine lv_aload_n hx hb d_M_begin_0 rfl (lv_at hl 0 rfl) ?_
    refine lv_iconst (v := 0) hx hb d_M_begin_1 (by decide) ?_
    refine va_put (D := (dC, dI)) (ci := 2) (v := .int 0) (ty := .int) (C := R_M) (T := F_M) (N := 11) hx hb hB in_M tf_M ty_M nm_M hown hK hP hD hS 0 rfl rfl 0 (by decide) (hB _ bw_355) (fun _ h9 => h9) rfl (by decide +kernel) rfl rfl (Nat.le_of_ble_eq_true rfl) d_M_begin_2 (fun H locs hP hD hS => ?_)
    have hP : va_P (dC, dI) vwC (mW k a (0, zC r, zW r, zG r, zP r, zS r, zH r, zR r, zO r, zD r, zL r)) H := hP
    have hD : va_D A (mW k a (0, zC r, zW r, zG r, zP r, zS r, zH r, zR r, zO r, zD r, zL r)) := hD
    refine lv_aload_n hx hb d_M_begin_5 rfl (lv_at hl 0 rfl) ?_
    refine lv_iload_n hx hb d_M_begin_6 rfl (lv_at hl 1 rfl) ?_
    refine vp_callSi (va_Run.run (va_runS (As := [.int tt]) (rest := [.ref (a 0)]) ⟨hx, hb, hml, hown, hB⟩ (m_M_isOne l tt) (va_cwS 1 hB (BIG_SS bw_387 bw_388 bw_18 bw_389) rfl rfl rfl ⟨by decide, by decide, by decide +kernel⟩ ⟨Nat.le_of_ble_eq_true rfl, Nat.le_of_ble_eq_true rfl⟩) preEq rfl rfl hl.1 rfl (lv_room (Nat.le_of_ble_eq_true rfl)) d_M_begin_7 ⟨Nat.zero_le _, Nat.zero_le _⟩)) (fun r7 hr7 => ?_)
    refine W.eq (g2 := F0 m 10 ls [.int (bI false), .ref (a 0)]) (by rw [hr7, hq]; rfl) ?_
    refine lv_if_ne hx hb d_M_begin_10 rfl (fun h9 => absurd h9 (by decide)) (fun _ => ?_)
    refine lv_iconst (v := bI true) hx hb d_M_begin_13 (by decide) ?_
    refine lv_goto hx hb d_M_begin_14 rfl ?_
    refine lv_iconst (v := 1) hx hb d_M_begin_18 (by decide) ?_
    have hFc := va_free (wc := mW k a (0, zC r, zW r, zG r, zP r, zS r, zH r, zR r, zO r, zD r, zL r)) hD hS hA [0, 1, 2, 3, 4, 5, 6, 7, 8] rfl
    refine va_calli (va_runV (As := [.int (bI true), .int 1]) (rest := []) ⟨hx, hb, hml, hown, hB⟩ (m_M_fails_t l dC dI k a _ (0, zC r, zW r, zG r, zP r, zS r, zH r, zR r, zO r, zD r, zL r) 1 rfl (by decide)) (cwV 2 hB (BIG_V bw_394 bw_395 bw_10 bw_18 bw_396) rfl rfl rfl ⟨rfl, by decide, by decide, by decide +kernel⟩ ⟨Nat.le_of_ble_eq_true rfl, Nat.le_of_ble_eq_true rfl⟩) (mPc_pre _ hP hK hD) rfl rfl hl.1 rfl (lv_room (Nat.le_of_ble_eq_true rfl)) d_M_begin_19 ⟨Nat.zero_le _, Nat.zero_le _⟩) hS (fun q _ h => hFc q h) hFc (fun r7 u t H1 locs ht hvm hw hB1 hz1 hk1 hS => ?_)
    obtain ⟨hw1, hw2⟩ := hw
    subst hw1
    subst hw2
    have hP : va_P (dC, dI) vwC (mW k a (zErr (0, zC r, zW r, zG r, zP r, zS r, zH r, zR r, zO r, zD r, zL r) 1)) H1 := by rw [← ht]; exact hB1
    have hD : va_D A (mW k a (zErr (0, zC r, zW r, zG r, zP r, zS r, zH r, zR r, zO r, zD r, zL r) 1)) := mW_D hDk
    clear hFc hB1 hk1 hz1 ht hvm
    generalize H1 = H at hP hS ⊢
    have hP : va_P (dC, dI) vwC (mW k a (1, zC r, zW r, zG r, zP r, zS r, zH r, zR r, zO r, zD r, zL r)) H := hP
    have hD : va_D A (mW k a (1, zC r, zW r, zG r, zP r, zS r, zH r, zR r, zO r, zD r, zL r)) := hD
    refine lv_if_ne hx hb d_M_begin_22 rfl (fun _ => ?_) (fun h9 => absurd h9 (by decide))
    exact W.vret hx hb hr (fun t ht hW => ⟨⟨(1, zC r, zW r, zG r, zP r, zS r, zH r, zR r, zO r, zD r, zL r), rfl, by unfold zBegin; rw [hq]; first | done | rfl, by show va_P (dC, dI) vwC _ t.heap; rw [ht]; exact hP⟩, hS.F ht⟩) hS.2.2 d_M_begin_39
  | some j =>
    obtain ⟨hj, htj⟩ := ix_some (by decide) hq
    subst htj
    cases ho : zO r j with
    | true =>
      refine lv_aload_n hx hb d_M_begin_0 rfl (lv_at hl 0 rfl) ?_
      refine lv_iconst (v := 0) hx hb d_M_begin_1 (by decide) ?_
      refine va_put (D := (dC, dI)) (ci := 2) (v := .int 0) (ty := .int) (C := R_M) (T := F_M) (N := 11) hx hb hB in_M tf_M ty_M nm_M hown hK hP hD hS 0 rfl rfl 0 (by decide) (hB _ bw_355) (fun _ h9 => h9) rfl (by decide +kernel) rfl rfl (Nat.le_of_ble_eq_true rfl) d_M_begin_2 (fun H locs hP hD hS => ?_)
      have hP : va_P (dC, dI) vwC (mW k a (0, zC r, zW r, zG r, zP r, zS r, zH r, zR r, zO r, zD r, zL r)) H := hP
      have hD : va_D A (mW k a (0, zC r, zW r, zG r, zP r, zS r, zH r, zR r, zO r, zD r, zL r)) := hD
      refine lv_aload_n hx hb d_M_begin_5 rfl (lv_at hl 0 rfl) ?_
      refine lv_iload_n hx hb d_M_begin_6 rfl (lv_at hl 1 rfl) ?_
      refine vp_callSi (va_Run.run (va_runS (As := [.int (nI j)]) (rest := [.ref (a 0)]) ⟨hx, hb, hml, hown, hB⟩ (m_M_isOne l (nI j)) (va_cwS 1 hB (BIG_SS bw_387 bw_388 bw_18 bw_389) rfl rfl rfl ⟨by decide, by decide, by decide +kernel⟩ ⟨Nat.le_of_ble_eq_true rfl, Nat.le_of_ble_eq_true rfl⟩) preEq rfl rfl hl.1 rfl (lv_room (Nat.le_of_ble_eq_true rfl)) d_M_begin_7 ⟨Nat.zero_le _, Nat.zero_le _⟩)) (fun r7 hr7 => ?_)
      refine W.eq (g2 := F0 m 10 ls [.int (bI true), .ref (a 0)]) (by rw [hr7, hq]; rfl) ?_
      refine lv_if_ne hx hb d_M_begin_10 rfl (fun _ => ?_) (fun h9 => absurd h9 (by decide))
      refine lv_iconst (v := bI false) hx hb d_M_begin_17 (by decide) ?_
      refine lv_iconst (v := 1) hx hb d_M_begin_18 (by decide) ?_
      have hFc := va_free (wc := mW k a (0, zC r, zW r, zG r, zP r, zS r, zH r, zR r, zO r, zD r, zL r)) hD hS hA [0, 1, 2, 3, 4, 5, 6, 7, 8] rfl
      refine va_calli (va_runV (As := [.int (bI false), .int 1]) (rest := []) ⟨hx, hb, hml, hown, hB⟩ (m_M_fails_f l dC dI k a _ (0, zC r, zW r, zG r, zP r, zS r, zH r, zR r, zO r, zD r, zL r) 1 rfl) (cwV 2 hB (BIG_V bw_394 bw_395 bw_10 bw_18 bw_396) rfl rfl rfl ⟨rfl, by decide, by decide, by decide +kernel⟩ ⟨Nat.le_of_ble_eq_true rfl, Nat.le_of_ble_eq_true rfl⟩) (mPc_pre _ hP hK hD) rfl rfl hl.1 rfl (lv_room (Nat.le_of_ble_eq_true rfl)) d_M_begin_19 ⟨Nat.zero_le _, Nat.zero_le _⟩) hS (fun q _ h => hFc q h) hFc (fun r7 u t H1 locs ht hvm hw hB1 hz1 hk1 hS => ?_)
      obtain ⟨hw1, hw2⟩ := hw
      subst hw1
      subst hw2
      have hP : va_P (dC, dI) vwC (mW k a (0, zC r, zW r, zG r, zP r, zS r, zH r, zR r, zO r, zD r, zL r)) H1 := by rw [← ht]; exact hB1
      have hD : va_D A (mW k a (0, zC r, zW r, zG r, zP r, zS r, zH r, zR r, zO r, zD r, zL r)) := mW_D hDk
      clear hFc hB1 hk1 hz1 ht hvm
      generalize H1 = H at hP hS ⊢
      refine lv_if_ne hx hb d_M_begin_22 rfl (fun h9 => absurd h9 (by decide)) (fun _ => ?_)
      refine lv_aload_n hx hb d_M_begin_25 rfl (lv_at hl 0 rfl) ?_
      refine lv_aload_n hx hb d_M_begin_26 rfl (lv_at hl 0 rfl) ?_
      refine va_get (D := (dC, dI)) (ci := 2) (v := .ref (a 8)) (C := R_M) (T := F_M) (N := 11) hx hb hB in_M hown hK hP 0 rfl rfl 8 (by decide) (hB _ bw_363) (fun _ h9 => h9) rfl d_M_begin_27 ?_
      refine lv_iload_n hx hb d_M_begin_30 rfl (lv_at hl 1 rfl) ?_
      refine va_zald hx hb hK hP 8 4 rfl rfl (pk_in j 8 (by omega)) d_M_begin_31 ?_
      refine W.eq (g2 := F0 m 32 ls [.int (bI (zO r j)), .ref (a 0)]) (by rw [cl_nI (by omega)]) ?_
      refine W.eq (g2 := F0 m 32 ls [.int (bI true), .ref (a 0)]) (by rw [ho]) ?_
      refine lv_iconst (v := 2) hx hb d_M_begin_32 (by decide) ?_
      have hFc := va_free (wc := mW k a (0, zC r, zW r, zG r, zP r, zS r, zH r, zR r, zO r, zD r, zL r)) hD hS hA [0, 1, 2, 3, 4, 5, 6, 7, 8] rfl
      refine va_calli (va_runV (As := [.int (bI true), .int 2]) (rest := []) ⟨hx, hb, hml, hown, hB⟩ (m_M_fails_t l dC dI k a _ (0, zC r, zW r, zG r, zP r, zS r, zH r, zR r, zO r, zD r, zL r) 2 rfl (by decide)) (cwV 2 hB (BIG_V bw_394 bw_395 bw_10 bw_18 bw_396) rfl rfl rfl ⟨rfl, by decide, by decide, by decide +kernel⟩ ⟨Nat.le_of_ble_eq_true rfl, Nat.le_of_ble_eq_true rfl⟩) (mPc_pre _ hP hK hD) rfl rfl hl.1 rfl (lv_room (Nat.le_of_ble_eq_true rfl)) d_M_begin_33 ⟨Nat.zero_le _, Nat.zero_le _⟩) hS (fun q _ h => hFc q h) hFc (fun r7 u t H1 locs ht hvm hw hB1 hz1 hk1 hS => ?_)
      obtain ⟨hw1, hw2⟩ := hw
      subst hw1
      subst hw2
      have hP : va_P (dC, dI) vwC (mW k a (zErr (0, zC r, zW r, zG r, zP r, zS r, zH r, zR r, zO r, zD r, zL r) 2)) H1 := by rw [← ht]; exact hB1
      have hD : va_D A (mW k a (zErr (0, zC r, zW r, zG r, zP r, zS r, zH r, zR r, zO r, zD r, zL r) 2)) := mW_D hDk
      clear hFc hB1 hk1 hz1 ht hvm
      generalize H1 = H at hP hS ⊢
      have hP : va_P (dC, dI) vwC (mW k a (2, zC r, zW r, zG r, zP r, zS r, zH r, zR r, zO r, zD r, zL r)) H := hP
      have hD : va_D A (mW k a (2, zC r, zW r, zG r, zP r, zS r, zH r, zR r, zO r, zD r, zL r)) := hD
      refine lv_if_eq hx hb d_M_begin_36 rfl (fun h9 => absurd h9 (by decide)) (fun _ => ?_)
      exact W.vret hx hb hr (fun t ht hW => ⟨⟨(2, zC r, zW r, zG r, zP r, zS r, zH r, zR r, zO r, zD r, zL r), rfl, by unfold zBegin; rw [hq]; dsimp only; rw [if_pos ho]; first | done | rfl, by show va_P (dC, dI) vwC _ t.heap; rw [ht]; exact hP⟩, hS.F ht⟩) hS.2.2 d_M_begin_39
    | false =>
      refine lv_aload_n hx hb d_M_begin_0 rfl (lv_at hl 0 rfl) ?_
      refine lv_iconst (v := 0) hx hb d_M_begin_1 (by decide) ?_
      refine va_put (D := (dC, dI)) (ci := 2) (v := .int 0) (ty := .int) (C := R_M) (T := F_M) (N := 11) hx hb hB in_M tf_M ty_M nm_M hown hK hP hD hS 0 rfl rfl 0 (by decide) (hB _ bw_355) (fun _ h9 => h9) rfl (by decide +kernel) rfl rfl (Nat.le_of_ble_eq_true rfl) d_M_begin_2 (fun H locs hP hD hS => ?_)
      have hP : va_P (dC, dI) vwC (mW k a (0, zC r, zW r, zG r, zP r, zS r, zH r, zR r, zO r, zD r, zL r)) H := hP
      have hD : va_D A (mW k a (0, zC r, zW r, zG r, zP r, zS r, zH r, zR r, zO r, zD r, zL r)) := hD
      refine lv_aload_n hx hb d_M_begin_5 rfl (lv_at hl 0 rfl) ?_
      refine lv_iload_n hx hb d_M_begin_6 rfl (lv_at hl 1 rfl) ?_
      refine vp_callSi (va_Run.run (va_runS (As := [.int (nI j)]) (rest := [.ref (a 0)]) ⟨hx, hb, hml, hown, hB⟩ (m_M_isOne l (nI j)) (va_cwS 1 hB (BIG_SS bw_387 bw_388 bw_18 bw_389) rfl rfl rfl ⟨by decide, by decide, by decide +kernel⟩ ⟨Nat.le_of_ble_eq_true rfl, Nat.le_of_ble_eq_true rfl⟩) preEq rfl rfl hl.1 rfl (lv_room (Nat.le_of_ble_eq_true rfl)) d_M_begin_7 ⟨Nat.zero_le _, Nat.zero_le _⟩)) (fun r7 hr7 => ?_)
      refine W.eq (g2 := F0 m 10 ls [.int (bI true), .ref (a 0)]) (by rw [hr7, hq]; rfl) ?_
      refine lv_if_ne hx hb d_M_begin_10 rfl (fun _ => ?_) (fun h9 => absurd h9 (by decide))
      refine lv_iconst (v := bI false) hx hb d_M_begin_17 (by decide) ?_
      refine lv_iconst (v := 1) hx hb d_M_begin_18 (by decide) ?_
      have hFc := va_free (wc := mW k a (0, zC r, zW r, zG r, zP r, zS r, zH r, zR r, zO r, zD r, zL r)) hD hS hA [0, 1, 2, 3, 4, 5, 6, 7, 8] rfl
      refine va_calli (va_runV (As := [.int (bI false), .int 1]) (rest := []) ⟨hx, hb, hml, hown, hB⟩ (m_M_fails_f l dC dI k a _ (0, zC r, zW r, zG r, zP r, zS r, zH r, zR r, zO r, zD r, zL r) 1 rfl) (cwV 2 hB (BIG_V bw_394 bw_395 bw_10 bw_18 bw_396) rfl rfl rfl ⟨rfl, by decide, by decide, by decide +kernel⟩ ⟨Nat.le_of_ble_eq_true rfl, Nat.le_of_ble_eq_true rfl⟩) (mPc_pre _ hP hK hD) rfl rfl hl.1 rfl (lv_room (Nat.le_of_ble_eq_true rfl)) d_M_begin_19 ⟨Nat.zero_le _, Nat.zero_le _⟩) hS (fun q _ h => hFc q h) hFc (fun r7 u t H1 locs ht hvm hw hB1 hz1 hk1 hS => ?_)
      obtain ⟨hw1, hw2⟩ := hw
      subst hw1
      subst hw2
      have hP : va_P (dC, dI) vwC (mW k a (0, zC r, zW r, zG r, zP r, zS r, zH r, zR r, zO r, zD r, zL r)) H1 := by rw [← ht]; exact hB1
      have hD : va_D A (mW k a (0, zC r, zW r, zG r, zP r, zS r, zH r, zR r, zO r, zD r, zL r)) := mW_D hDk
      clear hFc hB1 hk1 hz1 ht hvm
      generalize H1 = H at hP hS ⊢
      refine lv_if_ne hx hb d_M_begin_22 rfl (fun h9 => absurd h9 (by decide)) (fun _ => ?_)
      refine lv_aload_n hx hb d_M_begin_25 rfl (lv_at hl 0 rfl) ?_
      refine lv_aload_n hx hb d_M_begin_26 rfl (lv_at hl 0 rfl) ?_
      refine va_get (D := (dC, dI)) (ci := 2) (v := .ref (a 8)) (C := R_M) (T := F_M) (N := 11) hx hb hB in_M hown hK hP 0 rfl rfl 8 (by decide) (hB _ bw_363) (fun _ h9 => h9) rfl d_M_begin_27 ?_
      refine lv_iload_n hx hb d_M_begin_30 rfl (lv_at hl 1 rfl) ?_
      refine va_zald hx hb hK hP 8 4 rfl rfl (pk_in j 8 (by omega)) d_M_begin_31 ?_
      refine W.eq (g2 := F0 m 32 ls [.int (bI (zO r j)), .ref (a 0)]) (by rw [cl_nI (by omega)]) ?_
      refine W.eq (g2 := F0 m 32 ls [.int (bI false), .ref (a 0)]) (by rw [ho]) ?_
      refine lv_iconst (v := 2) hx hb d_M_begin_32 (by decide) ?_
      have hFc := va_free (wc := mW k a (0, zC r, zW r, zG r, zP r, zS r, zH r, zR r, zO r, zD r, zL r)) hD hS hA [0, 1, 2, 3, 4, 5, 6, 7, 8] rfl
      refine va_calli (va_runV (As := [.int (bI false), .int 2]) (rest := []) ⟨hx, hb, hml, hown, hB⟩ (m_M_fails_f l dC dI k a _ (0, zC r, zW r, zG r, zP r, zS r, zH r, zR r, zO r, zD r, zL r) 2 rfl) (cwV 2 hB (BIG_V bw_394 bw_395 bw_10 bw_18 bw_396) rfl rfl rfl ⟨rfl, by decide, by decide, by decide +kernel⟩ ⟨Nat.le_of_ble_eq_true rfl, Nat.le_of_ble_eq_true rfl⟩) (mPc_pre _ hP hK hD) rfl rfl hl.1 rfl (lv_room (Nat.le_of_ble_eq_true rfl)) d_M_begin_33 ⟨Nat.zero_le _, Nat.zero_le _⟩) hS (fun q _ h => hFc q h) hFc (fun r7 u t H1 locs ht hvm hw hB1 hz1 hk1 hS => ?_)
      obtain ⟨hw1, hw2⟩ := hw
      subst hw1
      subst hw2
      have hP : va_P (dC, dI) vwC (mW k a (0, zC r, zW r, zG r, zP r, zS r, zH r, zR r, zO r, zD r, zL r)) H1 := by rw [← ht]; exact hB1
      have hD : va_D A (mW k a (0, zC r, zW r, zG r, zP r, zS r, zH r, zR r, zO r, zD r, zL r)) := mW_D hDk
      clear hFc hB1 hk1 hz1 ht hvm
      generalize H1 = H at hP hS ⊢
      refine lv_if_eq hx hb d_M_begin_36 rfl (fun _ => ?_) (fun h9 => absurd (by decide) h9)
      refine lv_aload_n hx hb d_M_begin_40 rfl (lv_at hl 0 rfl) ?_
      refine va_get (D := (dC, dI)) (ci := 2) (v := .ref (a 8)) (C := R_M) (T := F_M) (N := 11) hx hb hB in_M hown hK hP 0 rfl rfl 8 (by decide) (hB _ bw_363) (fun _ h9 => h9) rfl d_M_begin_41 ?_
      refine lv_iload_n hx hb d_M_begin_44 rfl (lv_at hl 1 rfl) ?_
      refine lv_iconst (v := bI true) hx hb d_M_begin_45 (by decide) ?_
      refine va_zast hx hb hK hP hD hS 8 4 rfl rfl (pk_in j 8 (by omega)) d_M_begin_46 (fun H locs hP hD hS => ?_)
      rw [cl_nI (by omega), bI_upd] at hP
      have hP : va_P (dC, dI) vwC (mW k a (0, zC r, zW r, zG r, zP r, zS r, zH r, zR r, va_up (zO r) j true, zD r, zL r)) H := hP
      have hD : va_D A (mW k a (0, zC r, zW r, zG r, zP r, zS r, zH r, zR r, va_up (zO r) j true, zD r, zL r)) := mW_D hDk
      refine lv_aload_n hx hb d_M_begin_47 rfl (lv_at hl 0 rfl) ?_
      refine va_get (D := (dC, dI)) (ci := 2) (v := .ref (a 4)) (C := R_M) (T := F_M) (N := 11) hx hb hB in_M hown hK hP 0 rfl rfl 4 (by decide) (hB _ bw_359) (fun _ h9 => h9) rfl d_M_begin_48 ?_
      refine lv_iload_n hx hb d_M_begin_51 rfl (lv_at hl 1 rfl) ?_
      refine lv_iconst (v := nI 1) hx hb d_M_begin_52 (by decide) ?_
      refine va_iast hx hb hK hP hD hS 4 0 rfl rfl (pk_in j 8 (by omega)) d_M_begin_53 (fun H locs hP hD hS => ?_)
      rw [cl_nI (by omega), nI_upd] at hP
      have hP : va_P (dC, dI) vwC (mW k a (0, zC r, zW r, zG r, va_up (zP r) j 1, zS r, zH r, zR r, va_up (zO r) j true, zD r, zL r)) H := hP
      have hD : va_D A (mW k a (0, zC r, zW r, zG r, va_up (zP r) j 1, zS r, zH r, zR r, va_up (zO r) j true, zD r, zL r)) := mW_D hDk
      refine lv_iconst (v := nI 0) hx hb d_M_begin_54 (by decide) ?_
      refine lv_istore_n hx hb d_M_begin_55 rfl hl (by decide) rfl (fun ls hl => ?_)
      have hl : lv_has ls 3 [(2, .int (nI 0)), (0, .ref (a 0)), (1, .int (nI j))] := hl
      suffices key : ∀ n i (H : Heap) (locs : List Loc) (ls : Array Slot), i ≤ 32 → 32 - i = n → lv_has ls 3 [(2, .int (nI i)), (0, .ref (a 0)), (1, .int (nI j))] → va_P (dC, dI) vwC (mW k a (0, zC r, zW r, zG r, va_up (zP r) j 1, zS r, zClr (zH r) (160 * j) i, zClr (zR r) (32 * j) i, va_up (zO r) j true, zD r, zL r)) H → va_S A s.heap H locs → W p l e _ s m _ below meth c H locs 0 0 (MQ below (va_Qv (fun u => u = zBegin r (nI j)) (mB dC dI k a) A) _ s 0 0 A) (F0 m 56 ls []) from key _ 0 _ _ ls (by omega) rfl hl hP hS
      clear hS hP hD hl
      intro n
      induction n with
      | zero =>
        intro i H locs ls hi hn hl hP hS
        have hie : i = 32 := by omega
        subst hie
        have hD : va_D A (mW k a (0, zC r, zW r, zG r, va_up (zP r) j 1, zS r, zClr (zH r) (160 * j) 32, zClr (zR r) (32 * j) 32, va_up (zO r) j true, zD r, zL r)) := mW_D hDk
        refine lv_iload_n hx hb d_M_begin_56 rfl (lv_at hl 0 rfl) ?_
        refine lv_bipush (v := nI 32) hx hb d_M_begin_57 (by decide) ?_
        refine lv_icmp_ge hx hb d_M_begin_59 rfl (fun _ => ?_) (fun h9 => absurd (nI_le (Nat.le_refl 32) (by omega)) h9)
        exact W.vret hx hb hr (fun t ht hW => ⟨⟨(0, zC r, zW r, zG r, va_up (zP r) j 1, zS r, zClr (zH r) (160 * j) 32, zClr (zR r) (32 * j) 32, va_up (zO r) j true, zD r, zL r), rfl, by unfold zBegin; rw [hq]; dsimp only; rw [if_neg (by rw [ho]; decide)]; first | done | rfl, by show va_P (dC, dI) vwC _ t.heap; rw [ht]; exact hP⟩, hS.F ht⟩) hS.2.2 d_M_begin_92
      | succ n ih =>
        intro i H locs ls hi hn hl hP hS
        have hlt : i < 32 := by omega
        have hD : va_D A (mW k a (0, zC r, zW r, zG r, va_up (zP r) j 1, zS r, zClr (zH r) (160 * j) i, zClr (zR r) (32 * j) i, va_up (zO r) j true, zD r, zL r)) := mW_D hDk
        refine lv_iload_n hx hb d_M_begin_56 rfl (lv_at hl 0 rfl) ?_
        refine lv_bipush (v := nI 32) hx hb d_M_begin_57 (by decide) ?_
        refine lv_icmp_ge hx hb d_M_begin_59 rfl (fun h9 => absurd h9 (nI_ge hlt (by omega))) (fun _ => ?_)
        have hup : va_up (zP r) j 1 j = 1 := va_up_self _ _ _
        refine lv_aload_n hx hb d_M_begin_62 rfl (lv_at hl 1 rfl) ?_
        refine va_get (D := (dC, dI)) (ci := 2) (v := .ref (a 7)) (C := R_M) (T := F_M) (N := 11) hx hb hB in_M hown hK hP 0 rfl rfl 7 (by decide) (hB _ bw_362) (fun _ h9 => h9) rfl d_M_begin_63 ?_
        refine lv_bipush (v := nI 32) hx hb d_M_begin_66 (by decide) ?_
        refine lv_iload_n hx hb d_M_begin_68 rfl (lv_at hl 2 rfl) ?_
        refine lv_imul hx hb d_M_begin_69 ?_
        refine W.eq (g2 := F0 m 70 ls [.int (nI (32 * j)), .ref (a 7)]) (by rw [pk_mul]) ?_
        refine lv_iload_n hx hb d_M_begin_70 rfl (lv_at hl 0 rfl) ?_
        refine lv_iadd hx hb d_M_begin_71 ?_
        refine W.eq (g2 := F0 m 72 ls [.int (nI ((32 * j) + i)), .ref (a 7)]) (by rw [nI_add]) ?_
        refine lv_iconst (v := bI false) hx hb d_M_begin_72 (by decide) ?_
        refine va_zast hx hb hK hP hD hS 7 4 rfl rfl (pk_in ((32 * j) + i) 256 (by omega)) d_M_begin_73 (fun H locs hP hD hS => ?_)
        rw [cl_nI (by omega), bI_upd] at hP
        have hP : va_P (dC, dI) vwC (mW k a (0, zC r, zW r, zG r, va_up (zP r) j 1, zS r, zClr (zH r) (160 * j) i, va_up (zClr (zR r) (32 * j) i) ((32 * j) + i) false, va_up (zO r) j true, zD r, zL r)) H := hP
        have hD : va_D A (mW k a (0, zC r, zW r, zG r, va_up (zP r) j 1, zS r, zClr (zH r) (160 * j) i, va_up (zClr (zR r) (32 * j) i) ((32 * j) + i) false, va_up (zO r) j true, zD r, zL r)) := mW_D hDk
        refine lv_aload_n hx hb d_M_begin_74 rfl (lv_at hl 1 rfl) ?_
        refine va_get (D := (dC, dI)) (ci := 2) (v := .ref (a 6)) (C := R_M) (T := F_M) (N := 11) hx hb hB in_M hown hK hP 0 rfl rfl 6 (by decide) (hB _ bw_361) (fun _ h9 => h9) rfl d_M_begin_75 ?_
        refine lv_aload_n hx hb d_M_begin_78 rfl (lv_at hl 1 rfl) ?_
        refine lv_iload_n hx hb d_M_begin_79 rfl (lv_at hl 2 rfl) ?_
        refine lv_iload_n hx hb d_M_begin_80 rfl (lv_at hl 0 rfl) ?_
        refine vp_callSi (va_Run.run (va_runV (As := [.int (nI j), .int (nI i)]) (rest := [.ref (a 6)]) ⟨hx, hb, hml, hown, hB⟩ (m_M_last l dC dI k a (0, zC r, zW r, zG r, va_up (zP r) j 1, zS r, zClr (zH r) (160 * j) i, va_up (zClr (zR r) (32 * j) i) ((32 * j) + i) false, va_up (zO r) j true, zD r, zL r) j i (by omega) (by omega) (by show 1 ≤ va_up (zP r) j 1 j; rw [hup]; omega) (by show va_up (zP r) j 1 j ≤ 5; rw [hup]; omega)) (cwV 2 hB (BIG_V bw_397 bw_398 bw_11 bw_18 bw_399) rfl rfl rfl ⟨rfl, by decide, by decide, by decide +kernel⟩ ⟨Nat.le_of_ble_eq_true rfl, Nat.le_of_ble_eq_true rfl⟩) (mRc_pre _ hP hK) rfl rfl hl.1 rfl (lv_room (Nat.le_of_ble_eq_true rfl)) d_M_begin_81 ⟨Nat.zero_le _, Nat.zero_le _⟩)) (fun r7 hr7 => ?_)
        refine W.eq (g2 := F0 m 84 ls [.int (nI (160 * j + i)), .ref (a 6)]) (by rw [hr7]; show F0 _ _ _ (Value.int (nI ((5 * j + va_up (zP r) j 1 j - 1) * 32 + i)) :: _) = _; rw [hup, show (5 * j + 1 - 1) * 32 + i = 160 * j + i by omega]) ?_
        refine lv_iconst (v := bI false) hx hb d_M_begin_84 (by decide) ?_
        refine va_zast hx hb hK hP hD hS 6 4 rfl rfl (pk_in (160 * j + i) 1280 (by omega)) d_M_begin_85 (fun H locs hP hD hS => ?_)
        rw [cl_nI (by omega), bI_upd] at hP
        have hP : va_P (dC, dI) vwC (mW k a (0, zC r, zW r, zG r, va_up (zP r) j 1, zS r, va_up (zClr (zH r) (160 * j) i) (160 * j + i) false, va_up (zClr (zR r) (32 * j) i) ((32 * j) + i) false, va_up (zO r) j true, zD r, zL r)) H := hP
        have hD : va_D A (mW k a (0, zC r, zW r, zG r, va_up (zP r) j 1, zS r, va_up (zClr (zH r) (160 * j) i) (160 * j + i) false, va_up (zClr (zR r) (32 * j) i) ((32 * j) + i) false, va_up (zO r) j true, zD r, zL r)) := mW_D hDk
        refine lv_iinc (k := 0) (v := nI (i + 1)) hx hb d_M_begin_86 hl rfl (nI_1 i) (by decide) rfl (fun ls hl => ?_)
        have hl : lv_has ls 3 [(2, .int (nI (i + 1))), (0, .ref (a 0)), (1, .int (nI j))] := hl
        refine lv_goto hx hb d_M_begin_89 rfl ?_
        exact ih (i + 1) H _ ls (by omega) (by omega) hl hP hS
set_option maxHeartbeats 4000000 in
set_option maxRecDepth 100000 in
theorem m_M_read (l : Launch) (dC : Nat → ClassId) (dI : Nat → Nat → Nat) (k : Nat → ClassId) (a : Nat → Nat) (sz : Nat) (r : xRS) (tt kk : Int32) (hok : mOk r) : Met l y_M_read w_M_read (rmx 2 0 0 80) (mPc dC dI k a sz r [.ref (a 0), .int tt, .int kk]) (va_Ql (fun o u => (o, u) = zRead r tt kk) (mB dC dI k a) (va_A (mW k a r) sz)) 0 0 (va_A (mW k a r) sz) := by
  refine Met.ofW (cc := c_M_read) (maxL := 3) (ret := (some .long)) (by decide) rfl ?_
  intro p e s m args below meth c s₁ B hml hv
  obtain ⟨rfl, hsz, hP, hK, hD0⟩ := hv
  have hx := B.exec
  have hb := B.bytes
  have hr := B.returns
  have hts := atoms_spec (ws := w_M_read) B.pre
  have hB : ∀ w ∈ BIG, w.before _ s = true := fun w h => hts w (List.mem_cons_of_mem _ h)
  have hown : s.vm.findClass R_M = some m.cls := findClass_of_methodNamed B.named
  have hlocks := B.notSynchronized
  have hl := lv_entry ([.ref (a 0), .int tt, .int kk]) (n := 3) (Nat.le_of_ble_eq_true rfl)
  rw [lg_entry_eq]
  generalize (lg_sl ([.ref (a 0), .int tt, .int kk]) ++ List.replicate (3 - (lg_sl ([.ref (a 0), .int tt, .int kk])).length) Slot.unset).toArray = ls at hl ⊢
  have hl : lv_has ls 3 [(0, .ref (a 0)), (1, .int tt), (2, .int kk)] := hl
  subst hsz
  have hD := hD0.self (sz := s.heap.size)
  generalize hAe : va_A (mW k a r) s.heap.size = A at hD ⊢
  have hA : ∀ q : Nat, s.heap.size ≤ q → A q := fun q h => by rw [← hAe]; exact Or.inr h
  have hS : va_S A s.heap s.heap [] := va_S.rf
  have hDk := hD
  cases hq : ix 8 tt with
  | none =>
    refine lv_aload_n hx hb d_M_read_0 rfl (lv_at hl 0 rfl) ?_
    refine lv_iconst (v := 0) hx hb d_M_read_1 (by decide) ?_
    refine va_put (D := (dC, dI)) (ci := 2) (v := .int 0) (ty := .int) (C := R_M) (T := F_M) (N := 11) hx hb hB in_M tf_M ty_M nm_M hown hK hP hD hS 0 rfl rfl 0 (by decide) (hB _ bw_355) (fun _ h9 => h9) rfl (by decide +kernel) rfl rfl (Nat.le_of_ble_eq_true rfl) d_M_read_2 (fun H locs hP hD hS => ?_)
    have hP : va_P (dC, dI) vwC (mW k a (0, zC r, zW r, zG r, zP r, zS r, zH r, zR r, zO r, zD r, zL r)) H := hP
    have hD : va_D A (mW k a (0, zC r, zW r, zG r, zP r, zS r, zH r, zR r, zO r, zD r, zL r)) := hD
    refine lv_aload_n hx hb d_M_read_5 rfl (lv_at hl 0 rfl) ?_
    refine lv_iload_n hx hb d_M_read_6 rfl (lv_at hl 1 rfl) ?_
    refine vp_callSi (va_Run.run (va_runS (As := [.int tt]) (rest := [.ref (a 0)]) ⟨hx, hb, hml, hown, hB⟩ (m_M_isOne l tt) (va_cwS 1 hB (BIG_SS bw_387 bw_388 bw_18 bw_389) rfl rfl rfl ⟨by decide, by decide, by decide +kernel⟩ ⟨Nat.le_of_ble_eq_true rfl, Nat.le_of_ble_eq_true rfl⟩) preEq rfl rfl hl.1 rfl (lv_room (Nat.le_of_ble_eq_true rfl)) d_M_read_7 ⟨Nat.zero_le _, Nat.zero_le _⟩)) (fun r7 hr7 => ?_)
    refine W.eq (g2 := F0 m 10 ls [.int (bI false), .ref (a 0)]) (by rw [hr7, hq]; rfl) ?_
    refine lv_if_ne hx hb d_M_read_10 rfl (fun h9 => absurd h9 (by decide)) (fun _ => ?_)
    refine lv_iconst (v := bI true) hx hb d_M_read_13 (by decide) ?_
    refine lv_goto hx hb d_M_read_14 rfl ?_
    refine lv_iconst (v := 1) hx hb d_M_read_18 (by decide) ?_
    have hFc := va_free (wc := mW k a (0, zC r, zW r, zG r, zP r, zS r, zH r, zR r, zO r, zD r, zL r)) hD hS hA [0, 1, 2, 3, 4, 5, 6, 7, 8] rfl
    refine va_calli (va_runV (As := [.int (bI true), .int 1]) (rest := []) ⟨hx, hb, hml, hown, hB⟩ (m_M_fails_t l dC dI k a _ (0, zC r, zW r, zG r, zP r, zS r, zH r, zR r, zO r, zD r, zL r) 1 rfl (by decide)) (cwV 2 hB (BIG_V bw_394 bw_395 bw_10 bw_18 bw_396) rfl rfl rfl ⟨rfl, by decide, by decide, by decide +kernel⟩ ⟨Nat.le_of_ble_eq_true rfl, Nat.le_of_ble_eq_true rfl⟩) (mPc_pre _ hP hK hD) rfl rfl hl.1 rfl (lv_room (Nat.le_of_ble_eq_true rfl)) d_M_read_19 ⟨Nat.zero_le _, Nat.zero_le _⟩) hS (fun q _ h => hFc q h) hFc (fun r7 u t H1 locs ht hvm hw hB1 hz1 hk1 hS => ?_)
    obtain ⟨hw1, hw2⟩ := hw
    subst hw1
    subst hw2
    have hP : va_P (dC, dI) vwC (mW k a (zErr (0, zC r, zW r, zG r, zP r, zS r, zH r, zR r, zO r, zD r, zL r) 1)) H1 := by rw [← ht]; exact hB1
    have hD : va_D A (mW k a (zErr (0, zC r, zW r, zG r, zP r, zS r, zH r, zR r, zO r, zD r, zL r) 1)) := mW_D hDk
    clear hFc hB1 hk1 hz1 ht hvm
    generalize H1 = H at hP hS ⊢
    have hP : va_P (dC, dI) vwC (mW k a (1, zC r, zW r, zG r, zP r, zS r, zH r, zR r, zO r, zD r, zL r)) H := hP
    have hD : va_D A (mW k a (1, zC r, zW r, zG r, zP r, zS r, zH r, zR r, zO r, zD r, zL r)) := hD
    refine lv_if_ne hx hb d_M_read_22 rfl (fun _ => ?_) (fun h9 => absurd h9 (by decide))
    refine lv_lconst (v := 0) hx hb d_M_read_67 (by decide) ?_
    exact W.lret (v := 0) hx hb hr (fun t ht hW => ⟨⟨0, (1, zC r, zW r, zG r, zP r, zS r, zH r, zR r, zO r, zD r, zL r), rfl, by unfold zRead; rw [hq]; first | done | rfl, by show va_P (dC, dI) vwC _ t.heap; rw [ht]; exact hP⟩, hS.F ht⟩) hS.2.2 d_M_read_68
  | some j =>
    obtain ⟨hj, htj⟩ := ix_some (by decide) hq
    subst htj
    cases hy : ix 32 kk with
    | none =>
      refine lv_aload_n hx hb d_M_read_0 rfl (lv_at hl 0 rfl) ?_
      refine lv_iconst (v := 0) hx hb d_M_read_1 (by decide) ?_
      refine va_put (D := (dC, dI)) (ci := 2) (v := .int 0) (ty := .int) (C := R_M) (T := F_M) (N := 11) hx hb hB in_M tf_M ty_M nm_M hown hK hP hD hS 0 rfl rfl 0 (by decide) (hB _ bw_355) (fun _ h9 => h9) rfl (by decide +kernel) rfl rfl (Nat.le_of_ble_eq_true rfl) d_M_read_2 (fun H locs hP hD hS => ?_)
      have hP : va_P (dC, dI) vwC (mW k a (0, zC r, zW r, zG r, zP r, zS r, zH r, zR r, zO r, zD r, zL r)) H := hP
      have hD : va_D A (mW k a (0, zC r, zW r, zG r, zP r, zS r, zH r, zR r, zO r, zD r, zL r)) := hD
      refine lv_aload_n hx hb d_M_read_5 rfl (lv_at hl 0 rfl) ?_
      refine lv_iload_n hx hb d_M_read_6 rfl (lv_at hl 1 rfl) ?_
      refine vp_callSi (va_Run.run (va_runS (As := [.int (nI j)]) (rest := [.ref (a 0)]) ⟨hx, hb, hml, hown, hB⟩ (m_M_isOne l (nI j)) (va_cwS 1 hB (BIG_SS bw_387 bw_388 bw_18 bw_389) rfl rfl rfl ⟨by decide, by decide, by decide +kernel⟩ ⟨Nat.le_of_ble_eq_true rfl, Nat.le_of_ble_eq_true rfl⟩) preEq rfl rfl hl.1 rfl (lv_room (Nat.le_of_ble_eq_true rfl)) d_M_read_7 ⟨Nat.zero_le _, Nat.zero_le _⟩)) (fun r7 hr7 => ?_)
      refine W.eq (g2 := F0 m 10 ls [.int (bI true), .ref (a 0)]) (by rw [hr7, hq]; rfl) ?_
      refine lv_if_ne hx hb d_M_read_10 rfl (fun _ => ?_) (fun h9 => absurd h9 (by decide))
      refine lv_iconst (v := bI false) hx hb d_M_read_17 (by decide) ?_
      refine lv_iconst (v := 1) hx hb d_M_read_18 (by decide) ?_
      have hFc := va_free (wc := mW k a (0, zC r, zW r, zG r, zP r, zS r, zH r, zR r, zO r, zD r, zL r)) hD hS hA [0, 1, 2, 3, 4, 5, 6, 7, 8] rfl
      refine va_calli (va_runV (As := [.int (bI false), .int 1]) (rest := []) ⟨hx, hb, hml, hown, hB⟩ (m_M_fails_f l dC dI k a _ (0, zC r, zW r, zG r, zP r, zS r, zH r, zR r, zO r, zD r, zL r) 1 rfl) (cwV 2 hB (BIG_V bw_394 bw_395 bw_10 bw_18 bw_396) rfl rfl rfl ⟨rfl, by decide, by decide, by decide +kernel⟩ ⟨Nat.le_of_ble_eq_true rfl, Nat.le_of_ble_eq_true rfl⟩) (mPc_pre _ hP hK hD) rfl rfl hl.1 rfl (lv_room (Nat.le_of_ble_eq_true rfl)) d_M_read_19 ⟨Nat.zero_le _, Nat.zero_le _⟩) hS (fun q _ h => hFc q h) hFc (fun r7 u t H1 locs ht hvm hw hB1 hz1 hk1 hS => ?_)
      obtain ⟨hw1, hw2⟩ := hw
      subst hw1
      subst hw2
      have hP : va_P (dC, dI) vwC (mW k a (0, zC r, zW r, zG r, zP r, zS r, zH r, zR r, zO r, zD r, zL r)) H1 := by rw [← ht]; exact hB1
      have hD : va_D A (mW k a (0, zC r, zW r, zG r, zP r, zS r, zH r, zR r, zO r, zD r, zL r)) := mW_D hDk
      clear hFc hB1 hk1 hz1 ht hvm
      generalize H1 = H at hP hS ⊢
      refine lv_if_ne hx hb d_M_read_22 rfl (fun h9 => absurd h9 (by decide)) (fun _ => ?_)
      refine lv_aload_n hx hb d_M_read_25 rfl (lv_at hl 0 rfl) ?_
      refine lv_iload_n hx hb d_M_read_26 rfl (lv_at hl 2 rfl) ?_
      refine vp_callSi (va_Run.run (va_runS (As := [.int kk]) (rest := [.ref (a 0)]) ⟨hx, hb, hml, hown, hB⟩ (m_M_isCell l kk) (va_cwS 1 hB (BIG_SS bw_404 bw_405 bw_18 bw_406) rfl rfl rfl ⟨by decide, by decide, by decide +kernel⟩ ⟨Nat.le_of_ble_eq_true rfl, Nat.le_of_ble_eq_true rfl⟩) preEq rfl rfl hl.1 rfl (lv_room (Nat.le_of_ble_eq_true rfl)) d_M_read_27 ⟨Nat.zero_le _, Nat.zero_le _⟩)) (fun r7 hr7 => ?_)
      refine W.eq (g2 := F0 m 30 ls [.int (bI false), .ref (a 0)]) (by rw [hr7, hy]; rfl) ?_
      refine lv_if_ne hx hb d_M_read_30 rfl (fun h9 => absurd h9 (by decide)) (fun _ => ?_)
      refine lv_iconst (v := bI true) hx hb d_M_read_33 (by decide) ?_
      refine lv_goto hx hb d_M_read_34 rfl ?_
      refine lv_iconst (v := 2) hx hb d_M_read_38 (by decide) ?_
      have hFc := va_free (wc := mW k a (0, zC r, zW r, zG r, zP r, zS r, zH r, zR r, zO r, zD r, zL r)) hD hS hA [0, 1, 2, 3, 4, 5, 6, 7, 8] rfl
      refine va_calli (va_runV (As := [.int (bI true), .int 2]) (rest := []) ⟨hx, hb, hml, hown, hB⟩ (m_M_fails_t l dC dI k a _ (0, zC r, zW r, zG r, zP r, zS r, zH r, zR r, zO r, zD r, zL r) 2 rfl (by decide)) (cwV 2 hB (BIG_V bw_394 bw_395 bw_10 bw_18 bw_396) rfl rfl rfl ⟨rfl, by decide, by decide, by decide +kernel⟩ ⟨Nat.le_of_ble_eq_true rfl, Nat.le_of_ble_eq_true rfl⟩) (mPc_pre _ hP hK hD) rfl rfl hl.1 rfl (lv_room (Nat.le_of_ble_eq_true rfl)) d_M_read_39 ⟨Nat.zero_le _, Nat.zero_le _⟩) hS (fun q _ h => hFc q h) hFc (fun r7 u t H1 locs ht hvm hw hB1 hz1 hk1 hS => ?_)
      obtain ⟨hw1, hw2⟩ := hw
      subst hw1
      subst hw2
      have hP : va_P (dC, dI) vwC (mW k a (zErr (0, zC r, zW r, zG r, zP r, zS r, zH r, zR r, zO r, zD r, zL r) 2)) H1 := by rw [← ht]; exact hB1
      have hD : va_D A (mW k a (zErr (0, zC r, zW r, zG r, zP r, zS r, zH r, zR r, zO r, zD r, zL r) 2)) := mW_D hDk
      clear hFc hB1 hk1 hz1 ht hvm
      generalize H1 = H at hP hS ⊢
      have hP : va_P (dC, dI) vwC (mW k a (2, zC r, zW r, zG r, zP r, zS r, zH r, zR r, zO r, zD r, zL r)) H := hP
      have hD : va_D A (mW k a (2, zC r, zW r, zG r, zP r, zS r, zH r, zR r, zO r, zD r, zL r)) := hD
      refine lv_if_ne hx hb d_M_read_42 rfl (fun _ => ?_) (fun h9 => absurd h9 (by decide))
      refine lv_lconst (v := 0) hx hb d_M_read_67 (by decide) ?_
      exact W.lret (v := 0) hx hb hr (fun t ht hW => ⟨⟨0, (2, zC r, zW r, zG r, zP r, zS r, zH r, zR r, zO r, zD r, zL r), rfl, by unfold zRead; rw [hq]; dsimp only; rw [hy]; first | done | rfl, by show va_P (dC, dI) vwC _ t.heap; rw [ht]; exact hP⟩, hS.F ht⟩) hS.2.2 d_M_read_68
    | some i =>
      obtain ⟨hi, hti⟩ := ix_some (by decide) hy
      subst hti
      cases ho : zO r j with
      | false =>
        refine lv_aload_n hx hb d_M_read_0 rfl (lv_at hl 0 rfl) ?_
        refine lv_iconst (v := 0) hx hb d_M_read_1 (by decide) ?_
        refine va_put (D := (dC, dI)) (ci := 2) (v := .int 0) (ty := .int) (C := R_M) (T := F_M) (N := 11) hx hb hB in_M tf_M ty_M nm_M hown hK hP hD hS 0 rfl rfl 0 (by decide) (hB _ bw_355) (fun _ h9 => h9) rfl (by decide +kernel) rfl rfl (Nat.le_of_ble_eq_true rfl) d_M_read_2 (fun H locs hP hD hS => ?_)
        have hP : va_P (dC, dI) vwC (mW k a (0, zC r, zW r, zG r, zP r, zS r, zH r, zR r, zO r, zD r, zL r)) H := hP
        have hD : va_D A (mW k a (0, zC r, zW r, zG r, zP r, zS r, zH r, zR r, zO r, zD r, zL r)) := hD
        refine lv_aload_n hx hb d_M_read_5 rfl (lv_at hl 0 rfl) ?_
        refine lv_iload_n hx hb d_M_read_6 rfl (lv_at hl 1 rfl) ?_
        refine vp_callSi (va_Run.run (va_runS (As := [.int (nI j)]) (rest := [.ref (a 0)]) ⟨hx, hb, hml, hown, hB⟩ (m_M_isOne l (nI j)) (va_cwS 1 hB (BIG_SS bw_387 bw_388 bw_18 bw_389) rfl rfl rfl ⟨by decide, by decide, by decide +kernel⟩ ⟨Nat.le_of_ble_eq_true rfl, Nat.le_of_ble_eq_true rfl⟩) preEq rfl rfl hl.1 rfl (lv_room (Nat.le_of_ble_eq_true rfl)) d_M_read_7 ⟨Nat.zero_le _, Nat.zero_le _⟩)) (fun r7 hr7 => ?_)
        refine W.eq (g2 := F0 m 10 ls [.int (bI true), .ref (a 0)]) (by rw [hr7, hq]; rfl) ?_
        refine lv_if_ne hx hb d_M_read_10 rfl (fun _ => ?_) (fun h9 => absurd h9 (by decide))
        refine lv_iconst (v := bI false) hx hb d_M_read_17 (by decide) ?_
        refine lv_iconst (v := 1) hx hb d_M_read_18 (by decide) ?_
        have hFc := va_free (wc := mW k a (0, zC r, zW r, zG r, zP r, zS r, zH r, zR r, zO r, zD r, zL r)) hD hS hA [0, 1, 2, 3, 4, 5, 6, 7, 8] rfl
        refine va_calli (va_runV (As := [.int (bI false), .int 1]) (rest := []) ⟨hx, hb, hml, hown, hB⟩ (m_M_fails_f l dC dI k a _ (0, zC r, zW r, zG r, zP r, zS r, zH r, zR r, zO r, zD r, zL r) 1 rfl) (cwV 2 hB (BIG_V bw_394 bw_395 bw_10 bw_18 bw_396) rfl rfl rfl ⟨rfl, by decide, by decide, by decide +kernel⟩ ⟨Nat.le_of_ble_eq_true rfl, Nat.le_of_ble_eq_true rfl⟩) (mPc_pre _ hP hK hD) rfl rfl hl.1 rfl (lv_room (Nat.le_of_ble_eq_true rfl)) d_M_read_19 ⟨Nat.zero_le _, Nat.zero_le _⟩) hS (fun q _ h => hFc q h) hFc (fun r7 u t H1 locs ht hvm hw hB1 hz1 hk1 hS => ?_)
        obtain ⟨hw1, hw2⟩ := hw
        subst hw1
        subst hw2
        have hP : va_P (dC, dI) vwC (mW k a (0, zC r, zW r, zG r, zP r, zS r, zH r, zR r, zO r, zD r, zL r)) H1 := by rw [← ht]; exact hB1
        have hD : va_D A (mW k a (0, zC r, zW r, zG r, zP r, zS r, zH r, zR r, zO r, zD r, zL r)) := mW_D hDk
        clear hFc hB1 hk1 hz1 ht hvm
        generalize H1 = H at hP hS ⊢
        refine lv_if_ne hx hb d_M_read_22 rfl (fun h9 => absurd h9 (by decide)) (fun _ => ?_)
        refine lv_aload_n hx hb d_M_read_25 rfl (lv_at hl 0 rfl) ?_
        refine lv_iload_n hx hb d_M_read_26 rfl (lv_at hl 2 rfl) ?_
        refine vp_callSi (va_Run.run (va_runS (As := [.int (nI i)]) (rest := [.ref (a 0)]) ⟨hx, hb, hml, hown, hB⟩ (m_M_isCell l (nI i)) (va_cwS 1 hB (BIG_SS bw_404 bw_405 bw_18 bw_406) rfl rfl rfl ⟨by decide, by decide, by decide +kernel⟩ ⟨Nat.le_of_ble_eq_true rfl, Nat.le_of_ble_eq_true rfl⟩) preEq rfl rfl hl.1 rfl (lv_room (Nat.le_of_ble_eq_true rfl)) d_M_read_27 ⟨Nat.zero_le _, Nat.zero_le _⟩)) (fun r7 hr7 => ?_)
        refine W.eq (g2 := F0 m 30 ls [.int (bI true), .ref (a 0)]) (by rw [hr7, hy]; rfl) ?_
        refine lv_if_ne hx hb d_M_read_30 rfl (fun _ => ?_) (fun h9 => absurd h9 (by decide))
        refine lv_iconst (v := bI false) hx hb d_M_read_37 (by decide) ?_
        refine lv_iconst (v := 2) hx hb d_M_read_38 (by decide) ?_
        have hFc := va_free (wc := mW k a (0, zC r, zW r, zG r, zP r, zS r, zH r, zR r, zO r, zD r, zL r)) hD hS hA [0, 1, 2, 3, 4, 5, 6, 7, 8] rfl
        refine va_calli (va_runV (As := [.int (bI false), .int 2]) (rest := []) ⟨hx, hb, hml, hown, hB⟩ (m_M_fails_f l dC dI k a _ (0, zC r, zW r, zG r, zP r, zS r, zH r, zR r, zO r, zD r, zL r) 2 rfl) (cwV 2 hB (BIG_V bw_394 bw_395 bw_10 bw_18 bw_396) rfl rfl rfl ⟨rfl, by decide, by decide, by decide +kernel⟩ ⟨Nat.le_of_ble_eq_true rfl, Nat.le_of_ble_eq_true rfl⟩) (mPc_pre _ hP hK hD) rfl rfl hl.1 rfl (lv_room (Nat.le_of_ble_eq_true rfl)) d_M_read_39 ⟨Nat.zero_le _, Nat.zero_le _⟩) hS (fun q _ h => hFc q h) hFc (fun r7 u t H1 locs ht hvm hw hB1 hz1 hk1 hS => ?_)
        obtain ⟨hw1, hw2⟩ := hw
        subst hw1
        subst hw2
        have hP : va_P (dC, dI) vwC (mW k a (0, zC r, zW r, zG r, zP r, zS r, zH r, zR r, zO r, zD r, zL r)) H1 := by rw [← ht]; exact hB1
        have hD : va_D A (mW k a (0, zC r, zW r, zG r, zP r, zS r, zH r, zR r, zO r, zD r, zL r)) := mW_D hDk
        clear hFc hB1 hk1 hz1 ht hvm
        generalize H1 = H at hP hS ⊢
        refine lv_if_ne hx hb d_M_read_42 rfl (fun h9 => absurd h9 (by decide)) (fun _ => ?_)
        refine lv_aload_n hx hb d_M_read_45 rfl (lv_at hl 0 rfl) ?_
        refine lv_aload_n hx hb d_M_read_46 rfl (lv_at hl 0 rfl) ?_
        refine va_get (D := (dC, dI)) (ci := 2) (v := .ref (a 8)) (C := R_M) (T := F_M) (N := 11) hx hb hB in_M hown hK hP 0 rfl rfl 8 (by decide) (hB _ bw_363) (fun _ h9 => h9) rfl d_M_read_47 ?_
        refine lv_iload_n hx hb d_M_read_50 rfl (lv_at hl 1 rfl) ?_
        refine va_zald hx hb hK hP 8 4 rfl rfl (pk_in j 8 (by omega)) d_M_read_51 ?_
        refine W.eq (g2 := F0 m 52 ls [.int (bI (zO r j)), .ref (a 0)]) (by rw [cl_nI (by omega)]) ?_
        refine W.eq (g2 := F0 m 52 ls [.int (bI false), .ref (a 0)]) (by rw [ho]) ?_
        refine lv_if_ne hx hb d_M_read_52 rfl (fun h9 => absurd h9 (by decide)) (fun _ => ?_)
        refine lv_iconst (v := bI true) hx hb d_M_read_55 (by decide) ?_
        refine lv_goto hx hb d_M_read_56 rfl ?_
        refine lv_iconst (v := 3) hx hb d_M_read_60 (by decide) ?_
        have hFc := va_free (wc := mW k a (0, zC r, zW r, zG r, zP r, zS r, zH r, zR r, zO r, zD r, zL r)) hD hS hA [0, 1, 2, 3, 4, 5, 6, 7, 8] rfl
        refine va_calli (va_runV (As := [.int (bI true), .int 3]) (rest := []) ⟨hx, hb, hml, hown, hB⟩ (m_M_fails_t l dC dI k a _ (0, zC r, zW r, zG r, zP r, zS r, zH r, zR r, zO r, zD r, zL r) 3 rfl (by decide)) (cwV 2 hB (BIG_V bw_394 bw_395 bw_10 bw_18 bw_396) rfl rfl rfl ⟨rfl, by decide, by decide, by decide +kernel⟩ ⟨Nat.le_of_ble_eq_true rfl, Nat.le_of_ble_eq_true rfl⟩) (mPc_pre _ hP hK hD) rfl rfl hl.1 rfl (lv_room (Nat.le_of_ble_eq_true rfl)) d_M_read_61 ⟨Nat.zero_le _, Nat.zero_le _⟩) hS (fun q _ h => hFc q h) hFc (fun r7 u t H1 locs ht hvm hw hB1 hz1 hk1 hS => ?_)
        obtain ⟨hw1, hw2⟩ := hw
        subst hw1
        subst hw2
        have hP : va_P (dC, dI) vwC (mW k a (zErr (0, zC r, zW r, zG r, zP r, zS r, zH r, zR r, zO r, zD r, zL r) 3)) H1 := by rw [← ht]; exact hB1
        have hD : va_D A (mW k a (zErr (0, zC r, zW r, zG r, zP r, zS r, zH r, zR r, zO r, zD r, zL r) 3)) := mW_D hDk
        clear hFc hB1 hk1 hz1 ht hvm
        generalize H1 = H at hP hS ⊢
        have hP : va_P (dC, dI) vwC (mW k a (3, zC r, zW r, zG r, zP r, zS r, zH r, zR r, zO r, zD r, zL r)) H := hP
        have hD : va_D A (mW k a (3, zC r, zW r, zG r, zP r, zS r, zH r, zR r, zO r, zD r, zL r)) := hD
        refine lv_if_eq hx hb d_M_read_64 rfl (fun h9 => absurd h9 (by decide)) (fun _ => ?_)
        refine lv_lconst (v := 0) hx hb d_M_read_67 (by decide) ?_
        exact W.lret (v := 0) hx hb hr (fun t ht hW => ⟨⟨0, (3, zC r, zW r, zG r, zP r, zS r, zH r, zR r, zO r, zD r, zL r), rfl, by unfold zRead; rw [hq]; dsimp only; rw [hy]; dsimp only; rw [if_pos ho]; first | done | rfl, by show va_P (dC, dI) vwC _ t.heap; rw [ht]; exact hP⟩, hS.F ht⟩) hS.2.2 d_M_read_68
      | true =>
        obtain ⟨hp1, hp5⟩ := hok j hj ho
        have hat : zAt r j i < 1280 := by unfold zAt; omega
        cases hh : zH r (zAt r j i) with
        | true =>
          refine lv_aload_n hx hb d_M_read_0 rfl (lv_at hl 0 rfl) ?_
          refine lv_iconst (v := 0) hx hb d_M_read_1 (by decide) ?_
          refine va_put (D := (dC, dI)) (ci := 2) (v := .int 0) (ty := .int) (C := R_M) (T := F_M) (N := 11) hx hb hB in_M tf_M ty_M nm_M hown hK hP hD hS 0 rfl rfl 0 (by decide) (hB _ bw_355) (fun _ h9 => h9) rfl (by decide +kernel) rfl rfl (Nat.le_of_ble_eq_true rfl) d_M_read_2 (fun H locs hP hD hS => ?_)
          have hP : va_P (dC, dI) vwC (mW k a (0, zC r, zW r, zG r, zP r, zS r, zH r, zR r, zO r, zD r, zL r)) H := hP
          have hD : va_D A (mW k a (0, zC r, zW r, zG r, zP r, zS r, zH r, zR r, zO r, zD r, zL r)) := hD
          refine lv_aload_n hx hb d_M_read_5 rfl (lv_at hl 0 rfl) ?_
          refine lv_iload_n hx hb d_M_read_6 rfl (lv_at hl 1 rfl) ?_
          refine vp_callSi (va_Run.run (va_runS (As := [.int (nI j)]) (rest := [.ref (a 0)]) ⟨hx, hb, hml, hown, hB⟩ (m_M_isOne l (nI j)) (va_cwS 1 hB (BIG_SS bw_387 bw_388 bw_18 bw_389) rfl rfl rfl ⟨by decide, by decide, by decide +kernel⟩ ⟨Nat.le_of_ble_eq_true rfl, Nat.le_of_ble_eq_true rfl⟩) preEq rfl rfl hl.1 rfl (lv_room (Nat.le_of_ble_eq_true rfl)) d_M_read_7 ⟨Nat.zero_le _, Nat.zero_le _⟩)) (fun r7 hr7 => ?_)
          refine W.eq (g2 := F0 m 10 ls [.int (bI true), .ref (a 0)]) (by rw [hr7, hq]; rfl) ?_
          refine lv_if_ne hx hb d_M_read_10 rfl (fun _ => ?_) (fun h9 => absurd h9 (by decide))
          refine lv_iconst (v := bI false) hx hb d_M_read_17 (by decide) ?_
          refine lv_iconst (v := 1) hx hb d_M_read_18 (by decide) ?_
          have hFc := va_free (wc := mW k a (0, zC r, zW r, zG r, zP r, zS r, zH r, zR r, zO r, zD r, zL r)) hD hS hA [0, 1, 2, 3, 4, 5, 6, 7, 8] rfl
          refine va_calli (va_runV (As := [.int (bI false), .int 1]) (rest := []) ⟨hx, hb, hml, hown, hB⟩ (m_M_fails_f l dC dI k a _ (0, zC r, zW r, zG r, zP r, zS r, zH r, zR r, zO r, zD r, zL r) 1 rfl) (cwV 2 hB (BIG_V bw_394 bw_395 bw_10 bw_18 bw_396) rfl rfl rfl ⟨rfl, by decide, by decide, by decide +kernel⟩ ⟨Nat.le_of_ble_eq_true rfl, Nat.le_of_ble_eq_true rfl⟩) (mPc_pre _ hP hK hD) rfl rfl hl.1 rfl (lv_room (Nat.le_of_ble_eq_true rfl)) d_M_read_19 ⟨Nat.zero_le _, Nat.zero_le _⟩) hS (fun q _ h => hFc q h) hFc (fun r7 u t H1 locs ht hvm hw hB1 hz1 hk1 hS => ?_)
          obtain ⟨hw1, hw2⟩ := hw
          subst hw1
          subst hw2
          have hP : va_P (dC, dI) vwC (mW k a (0, zC r, zW r, zG r, zP r, zS r, zH r, zR r, zO r, zD r, zL r)) H1 := by rw [← ht]; exact hB1
          have hD : va_D A (mW k a (0, zC r, zW r, zG r, zP r, zS r, zH r, zR r, zO r, zD r, zL r)) := mW_D hDk
          clear hFc hB1 hk1 hz1 ht hvm
          generalize H1 = H at hP hS ⊢
          refine lv_if_ne hx hb d_M_read_22 rfl (fun h9 => absurd h9 (by decide)) (fun _ => ?_)
          refine lv_aload_n hx hb d_M_read_25 rfl (lv_at hl 0 rfl) ?_
          refine lv_iload_n hx hb d_M_read_26 rfl (lv_at hl 2 rfl) ?_
          refine vp_callSi (va_Run.run (va_runS (As := [.int (nI i)]) (rest := [.ref (a 0)]) ⟨hx, hb, hml, hown, hB⟩ (m_M_isCell l (nI i)) (va_cwS 1 hB (BIG_SS bw_404 bw_405 bw_18 bw_406) rfl rfl rfl ⟨by decide, by decide, by decide +kernel⟩ ⟨Nat.le_of_ble_eq_true rfl, Nat.le_of_ble_eq_true rfl⟩) preEq rfl rfl hl.1 rfl (lv_room (Nat.le_of_ble_eq_true rfl)) d_M_read_27 ⟨Nat.zero_le _, Nat.zero_le _⟩)) (fun r7 hr7 => ?_)
          refine W.eq (g2 := F0 m 30 ls [.int (bI true), .ref (a 0)]) (by rw [hr7, hy]; rfl) ?_
          refine lv_if_ne hx hb d_M_read_30 rfl (fun _ => ?_) (fun h9 => absurd h9 (by decide))
          refine lv_iconst (v := bI false) hx hb d_M_read_37 (by decide) ?_
          refine lv_iconst (v := 2) hx hb d_M_read_38 (by decide) ?_
          have hFc := va_free (wc := mW k a (0, zC r, zW r, zG r, zP r, zS r, zH r, zR r, zO r, zD r, zL r)) hD hS hA [0, 1, 2, 3, 4, 5, 6, 7, 8] rfl
          refine va_calli (va_runV (As := [.int (bI false), .int 2]) (rest := []) ⟨hx, hb, hml, hown, hB⟩ (m_M_fails_f l dC dI k a _ (0, zC r, zW r, zG r, zP r, zS r, zH r, zR r, zO r, zD r, zL r) 2 rfl) (cwV 2 hB (BIG_V bw_394 bw_395 bw_10 bw_18 bw_396) rfl rfl rfl ⟨rfl, by decide, by decide, by decide +kernel⟩ ⟨Nat.le_of_ble_eq_true rfl, Nat.le_of_ble_eq_true rfl⟩) (mPc_pre _ hP hK hD) rfl rfl hl.1 rfl (lv_room (Nat.le_of_ble_eq_true rfl)) d_M_read_39 ⟨Nat.zero_le _, Nat.zero_le _⟩) hS (fun q _ h => hFc q h) hFc (fun r7 u t H1 locs ht hvm hw hB1 hz1 hk1 hS => ?_)
          obtain ⟨hw1, hw2⟩ := hw
          subst hw1
          subst hw2
          have hP : va_P (dC, dI) vwC (mW k a (0, zC r, zW r, zG r, zP r, zS r, zH r, zR r, zO r, zD r, zL r)) H1 := by rw [← ht]; exact hB1
          have hD : va_D A (mW k a (0, zC r, zW r, zG r, zP r, zS r, zH r, zR r, zO r, zD r, zL r)) := mW_D hDk
          clear hFc hB1 hk1 hz1 ht hvm
          generalize H1 = H at hP hS ⊢
          refine lv_if_ne hx hb d_M_read_42 rfl (fun h9 => absurd h9 (by decide)) (fun _ => ?_)
          refine lv_aload_n hx hb d_M_read_45 rfl (lv_at hl 0 rfl) ?_
          refine lv_aload_n hx hb d_M_read_46 rfl (lv_at hl 0 rfl) ?_
          refine va_get (D := (dC, dI)) (ci := 2) (v := .ref (a 8)) (C := R_M) (T := F_M) (N := 11) hx hb hB in_M hown hK hP 0 rfl rfl 8 (by decide) (hB _ bw_363) (fun _ h9 => h9) rfl d_M_read_47 ?_
          refine lv_iload_n hx hb d_M_read_50 rfl (lv_at hl 1 rfl) ?_
          refine va_zald hx hb hK hP 8 4 rfl rfl (pk_in j 8 (by omega)) d_M_read_51 ?_
          refine W.eq (g2 := F0 m 52 ls [.int (bI (zO r j)), .ref (a 0)]) (by rw [cl_nI (by omega)]) ?_
          refine W.eq (g2 := F0 m 52 ls [.int (bI true), .ref (a 0)]) (by rw [ho]) ?_
          refine lv_if_ne hx hb d_M_read_52 rfl (fun _ => ?_) (fun h9 => absurd h9 (by decide))
          refine lv_iconst (v := bI false) hx hb d_M_read_59 (by decide) ?_
          refine lv_iconst (v := 3) hx hb d_M_read_60 (by decide) ?_
          have hFc := va_free (wc := mW k a (0, zC r, zW r, zG r, zP r, zS r, zH r, zR r, zO r, zD r, zL r)) hD hS hA [0, 1, 2, 3, 4, 5, 6, 7, 8] rfl
          refine va_calli (va_runV (As := [.int (bI false), .int 3]) (rest := []) ⟨hx, hb, hml, hown, hB⟩ (m_M_fails_f l dC dI k a _ (0, zC r, zW r, zG r, zP r, zS r, zH r, zR r, zO r, zD r, zL r) 3 rfl) (cwV 2 hB (BIG_V bw_394 bw_395 bw_10 bw_18 bw_396) rfl rfl rfl ⟨rfl, by decide, by decide, by decide +kernel⟩ ⟨Nat.le_of_ble_eq_true rfl, Nat.le_of_ble_eq_true rfl⟩) (mPc_pre _ hP hK hD) rfl rfl hl.1 rfl (lv_room (Nat.le_of_ble_eq_true rfl)) d_M_read_61 ⟨Nat.zero_le _, Nat.zero_le _⟩) hS (fun q _ h => hFc q h) hFc (fun r7 u t H1 locs ht hvm hw hB1 hz1 hk1 hS => ?_)
          obtain ⟨hw1, hw2⟩ := hw
          subst hw1
          subst hw2
          have hP : va_P (dC, dI) vwC (mW k a (0, zC r, zW r, zG r, zP r, zS r, zH r, zR r, zO r, zD r, zL r)) H1 := by rw [← ht]; exact hB1
          have hD : va_D A (mW k a (0, zC r, zW r, zG r, zP r, zS r, zH r, zR r, zO r, zD r, zL r)) := mW_D hDk
          clear hFc hB1 hk1 hz1 ht hvm
          generalize H1 = H at hP hS ⊢
          refine lv_if_eq hx hb d_M_read_64 rfl (fun _ => ?_) (fun h9 => absurd (by decide) h9)
          refine lv_aload_n hx hb d_M_read_69 rfl (lv_at hl 0 rfl) ?_
          refine va_get (D := (dC, dI)) (ci := 2) (v := .ref (a 6)) (C := R_M) (T := F_M) (N := 11) hx hb hB in_M hown hK hP 0 rfl rfl 6 (by decide) (hB _ bw_361) (fun _ h9 => h9) rfl d_M_read_70 ?_
          refine lv_aload_n hx hb d_M_read_73 rfl (lv_at hl 0 rfl) ?_
          refine lv_iload_n hx hb d_M_read_74 rfl (lv_at hl 1 rfl) ?_
          refine lv_iload_n hx hb d_M_read_75 rfl (lv_at hl 2 rfl) ?_
          refine vp_callSi (va_Run.run (va_runV (As := [.int (nI j), .int (nI i)]) (rest := [.ref (a 6)]) ⟨hx, hb, hml, hown, hB⟩ (m_M_last l dC dI k a (0, zC r, zW r, zG r, zP r, zS r, zH r, zR r, zO r, zD r, zL r) j i (by omega) (by omega) hp1 hp5) (cwV 2 hB (BIG_V bw_397 bw_398 bw_11 bw_18 bw_399) rfl rfl rfl ⟨rfl, by decide, by decide, by decide +kernel⟩ ⟨Nat.le_of_ble_eq_true rfl, Nat.le_of_ble_eq_true rfl⟩) (mRc_pre _ hP hK) rfl rfl hl.1 rfl (lv_room (Nat.le_of_ble_eq_true rfl)) d_M_read_76 ⟨Nat.zero_le _, Nat.zero_le _⟩)) (fun r7 hr7 => ?_)
          refine W.eq (g2 := F0 m 79 ls [.int (nI (zAt r j i)), .ref (a 6)]) (by rw [hr7]; rfl) ?_
          refine va_zald hx hb hK hP 6 4 rfl rfl (pk_in (zAt r j i) 1280 (by omega)) d_M_read_79 ?_
          refine W.eq (g2 := F0 m 80 ls [.int (bI (zH r (zAt r j i)))]) (by rw [cl_nI (by omega)]) ?_
          refine W.eq (g2 := F0 m 80 ls [.int (bI true)]) (by rw [hh]) ?_
          refine lv_if_eq hx hb d_M_read_80 rfl (fun h9 => absurd h9 (by decide)) (fun _ => ?_)
          refine lv_aload_n hx hb d_M_read_83 rfl (lv_at hl 0 rfl) ?_
          refine va_get (D := (dC, dI)) (ci := 2) (v := .ref (a 2)) (C := R_M) (T := F_M) (N := 11) hx hb hB in_M hown hK hP 0 rfl rfl 2 (by decide) (hB _ bw_357) (fun _ h9 => h9) rfl d_M_read_84 ?_
          refine lv_aload_n hx hb d_M_read_87 rfl (lv_at hl 0 rfl) ?_
          refine lv_iload_n hx hb d_M_read_88 rfl (lv_at hl 1 rfl) ?_
          refine lv_iload_n hx hb d_M_read_89 rfl (lv_at hl 2 rfl) ?_
          refine vp_callSi (va_Run.run (va_runV (As := [.int (nI j), .int (nI i)]) (rest := [.ref (a 2)]) ⟨hx, hb, hml, hown, hB⟩ (m_M_last l dC dI k a (0, zC r, zW r, zG r, zP r, zS r, zH r, zR r, zO r, zD r, zL r) j i (by omega) (by omega) hp1 hp5) (cwV 2 hB (BIG_V bw_397 bw_398 bw_11 bw_18 bw_399) rfl rfl rfl ⟨rfl, by decide, by decide, by decide +kernel⟩ ⟨Nat.le_of_ble_eq_true rfl, Nat.le_of_ble_eq_true rfl⟩) (mRc_pre _ hP hK) rfl rfl hl.1 rfl (lv_room (Nat.le_of_ble_eq_true rfl)) d_M_read_90 ⟨Nat.zero_le _, Nat.zero_le _⟩)) (fun r7 hr7 => ?_)
          refine W.eq (g2 := F0 m 93 ls [.int (nI (zAt r j i)), .ref (a 2)]) (by rw [hr7]; rfl) ?_
          refine va_lald hx hb hK hP 2 1 rfl rfl (pk_in (zAt r j i) 1280 (by omega)) d_M_read_93 ?_
          refine W.eq (g2 := F0 m 94 ls [.long (zW r (zAt r j i))]) (by rw [cl_nI (by omega)]) ?_
          exact W.lret (v := zW r (zAt r j i)) hx hb hr (fun t ht hW => ⟨⟨zW r (zAt r j i), (0, zC r, zW r, zG r, zP r, zS r, zH r, zR r, zO r, zD r, zL r), rfl, by unfold zRead; rw [hq]; dsimp only; rw [hy]; dsimp only; rw [if_neg (by rw [ho]; decide)]; rw [if_pos hh]; first | done | rfl, by show va_P (dC, dI) vwC _ t.heap; rw [ht]; exact hP⟩, hS.F ht⟩) hS.2.2 d_M_read_94
        | false =>
          refine lv_aload_n hx hb d_M_read_0 rfl (lv_at hl 0 rfl) ?_
          refine lv_iconst (v := 0) hx hb d_M_read_1 (by decide) ?_
          refine va_put (D := (dC, dI)) (ci := 2) (v := .int 0) (ty := .int) (C := R_M) (T := F_M) (N := 11) hx hb hB in_M tf_M ty_M nm_M hown hK hP hD hS 0 rfl rfl 0 (by decide) (hB _ bw_355) (fun _ h9 => h9) rfl (by decide +kernel) rfl rfl (Nat.le_of_ble_eq_true rfl) d_M_read_2 (fun H locs hP hD hS => ?_)
          have hP : va_P (dC, dI) vwC (mW k a (0, zC r, zW r, zG r, zP r, zS r, zH r, zR r, zO r, zD r, zL r)) H := hP
          have hD : va_D A (mW k a (0, zC r, zW r, zG r, zP r, zS r, zH r, zR r, zO r, zD r, zL r)) := hD
          refine lv_aload_n hx hb d_M_read_5 rfl (lv_at hl 0 rfl) ?_
          refine lv_iload_n hx hb d_M_read_6 rfl (lv_at hl 1 rfl) ?_
          refine vp_callSi (va_Run.run (va_runS (As := [.int (nI j)]) (rest := [.ref (a 0)]) ⟨hx, hb, hml, hown, hB⟩ (m_M_isOne l (nI j)) (va_cwS 1 hB (BIG_SS bw_387 bw_388 bw_18 bw_389) rfl rfl rfl ⟨by decide, by decide, by decide +kernel⟩ ⟨Nat.le_of_ble_eq_true rfl, Nat.le_of_ble_eq_true rfl⟩) preEq rfl rfl hl.1 rfl (lv_room (Nat.le_of_ble_eq_true rfl)) d_M_read_7 ⟨Nat.zero_le _, Nat.zero_le _⟩)) (fun r7 hr7 => ?_)
          refine W.eq (g2 := F0 m 10 ls [.int (bI true), .ref (a 0)]) (by rw [hr7, hq]; rfl) ?_
          refine lv_if_ne hx hb d_M_read_10 rfl (fun _ => ?_) (fun h9 => absurd h9 (by decide))
          refine lv_iconst (v := bI false) hx hb d_M_read_17 (by decide) ?_
          refine lv_iconst (v := 1) hx hb d_M_read_18 (by decide) ?_
          have hFc := va_free (wc := mW k a (0, zC r, zW r, zG r, zP r, zS r, zH r, zR r, zO r, zD r, zL r)) hD hS hA [0, 1, 2, 3, 4, 5, 6, 7, 8] rfl
          refine va_calli (va_runV (As := [.int (bI false), .int 1]) (rest := []) ⟨hx, hb, hml, hown, hB⟩ (m_M_fails_f l dC dI k a _ (0, zC r, zW r, zG r, zP r, zS r, zH r, zR r, zO r, zD r, zL r) 1 rfl) (cwV 2 hB (BIG_V bw_394 bw_395 bw_10 bw_18 bw_396) rfl rfl rfl ⟨rfl, by decide, by decide, by decide +kernel⟩ ⟨Nat.le_of_ble_eq_true rfl, Nat.le_of_ble_eq_true rfl⟩) (mPc_pre _ hP hK hD) rfl rfl hl.1 rfl (lv_room (Nat.le_of_ble_eq_true rfl)) d_M_read_19 ⟨Nat.zero_le _, Nat.zero_le _⟩) hS (fun q _ h => hFc q h) hFc (fun r7 u t H1 locs ht hvm hw hB1 hz1 hk1 hS => ?_)
          obtain ⟨hw1, hw2⟩ := hw
          subst hw1
          subst hw2
          have hP : va_P (dC, dI) vwC (mW k a (0, zC r, zW r, zG r, zP r, zS r, zH r, zR r, zO r, zD r, zL r)) H1 := by rw [← ht]; exact hB1
          have hD : va_D A (mW k a (0, zC r, zW r, zG r, zP r, zS r, zH r, zR r, zO r, zD r, zL r)) := mW_D hDk
          clear hFc hB1 hk1 hz1 ht hvm
          generalize H1 = H at hP hS ⊢
          refine lv_if_ne hx hb d_M_read_22 rfl (fun h9 => absurd h9 (by decide)) (fun _ => ?_)
          refine lv_aload_n hx hb d_M_read_25 rfl (lv_at hl 0 rfl) ?_
          refine lv_iload_n hx hb d_M_read_26 rfl (lv_at hl 2 rfl) ?_
          refine vp_callSi (va_Run.run (va_runS (As := [.int (nI i)]) (rest := [.ref (a 0)]) ⟨hx, hb, hml, hown, hB⟩ (m_M_isCell l (nI i)) (va_cwS 1 hB (BIG_SS bw_404 bw_405 bw_18 bw_406) rfl rfl rfl ⟨by decide, by decide, by decide +kernel⟩ ⟨Nat.le_of_ble_eq_true rfl, Nat.le_of_ble_eq_true rfl⟩) preEq rfl rfl hl.1 rfl (lv_room (Nat.le_of_ble_eq_true rfl)) d_M_read_27 ⟨Nat.zero_le _, Nat.zero_le _⟩)) (fun r7 hr7 => ?_)
          refine W.eq (g2 := F0 m 30 ls [.int (bI true), .ref (a 0)]) (by rw [hr7, hy]; rfl) ?_
          refine lv_if_ne hx hb d_M_read_30 rfl (fun _ => ?_) (fun h9 => absurd h9 (by decide))
          refine lv_iconst (v := bI false) hx hb d_M_read_37 (by decide) ?_
          refine lv_iconst (v := 2) hx hb d_M_read_38 (by decide) ?_
          have hFc := va_free (wc := mW k a (0, zC r, zW r, zG r, zP r, zS r, zH r, zR r, zO r, zD r, zL r)) hD hS hA [0, 1, 2, 3, 4, 5, 6, 7, 8] rfl
          refine va_calli (va_runV (As := [.int (bI false), .int 2]) (rest := []) ⟨hx, hb, hml, hown, hB⟩ (m_M_fails_f l dC dI k a _ (0, zC r, zW r, zG r, zP r, zS r, zH r, zR r, zO r, zD r, zL r) 2 rfl) (cwV 2 hB (BIG_V bw_394 bw_395 bw_10 bw_18 bw_396) rfl rfl rfl ⟨rfl, by decide, by decide, by decide +kernel⟩ ⟨Nat.le_of_ble_eq_true rfl, Nat.le_of_ble_eq_true rfl⟩) (mPc_pre _ hP hK hD) rfl rfl hl.1 rfl (lv_room (Nat.le_of_ble_eq_true rfl)) d_M_read_39 ⟨Nat.zero_le _, Nat.zero_le _⟩) hS (fun q _ h => hFc q h) hFc (fun r7 u t H1 locs ht hvm hw hB1 hz1 hk1 hS => ?_)
          obtain ⟨hw1, hw2⟩ := hw
          subst hw1
          subst hw2
          have hP : va_P (dC, dI) vwC (mW k a (0, zC r, zW r, zG r, zP r, zS r, zH r, zR r, zO r, zD r, zL r)) H1 := by rw [← ht]; exact hB1
          have hD : va_D A (mW k a (0, zC r, zW r, zG r, zP r, zS r, zH r, zR r, zO r, zD r, zL r)) := mW_D hDk
          clear hFc hB1 hk1 hz1 ht hvm
          generalize H1 = H at hP hS ⊢
          refine lv_if_ne hx hb d_M_read_42 rfl (fun h9 => absurd h9 (by decide)) (fun _ => ?_)
          refine lv_aload_n hx hb d_M_read_45 rfl (lv_at hl 0 rfl) ?_
          refine lv_aload_n hx hb d_M_read_46 rfl (lv_at hl 0 rfl) ?_
          refine va_get (D := (dC, dI)) (ci := 2) (v := .ref (a 8)) (C := R_M) (T := F_M) (N := 11) hx hb hB in_M hown hK hP 0 rfl rfl 8 (by decide) (hB _ bw_363) (fun _ h9 => h9) rfl d_M_read_47 ?_
          refine lv_iload_n hx hb d_M_read_50 rfl (lv_at hl 1 rfl) ?_
          refine va_zald hx hb hK hP 8 4 rfl rfl (pk_in j 8 (by omega)) d_M_read_51 ?_
          refine W.eq (g2 := F0 m 52 ls [.int (bI (zO r j)), .ref (a 0)]) (by rw [cl_nI (by omega)]) ?_
          refine W.eq (g2 := F0 m 52 ls [.int (bI true), .ref (a 0)]) (by rw [ho]) ?_
          refine lv_if_ne hx hb d_M_read_52 rfl (fun _ => ?_) (fun h9 => absurd h9 (by decide))
          refine lv_iconst (v := bI false) hx hb d_M_read_59 (by decide) ?_
          refine lv_iconst (v := 3) hx hb d_M_read_60 (by decide) ?_
          have hFc := va_free (wc := mW k a (0, zC r, zW r, zG r, zP r, zS r, zH r, zR r, zO r, zD r, zL r)) hD hS hA [0, 1, 2, 3, 4, 5, 6, 7, 8] rfl
          refine va_calli (va_runV (As := [.int (bI false), .int 3]) (rest := []) ⟨hx, hb, hml, hown, hB⟩ (m_M_fails_f l dC dI k a _ (0, zC r, zW r, zG r, zP r, zS r, zH r, zR r, zO r, zD r, zL r) 3 rfl) (cwV 2 hB (BIG_V bw_394 bw_395 bw_10 bw_18 bw_396) rfl rfl rfl ⟨rfl, by decide, by decide, by decide +kernel⟩ ⟨Nat.le_of_ble_eq_true rfl, Nat.le_of_ble_eq_true rfl⟩) (mPc_pre _ hP hK hD) rfl rfl hl.1 rfl (lv_room (Nat.le_of_ble_eq_true rfl)) d_M_read_61 ⟨Nat.zero_le _, Nat.zero_le _⟩) hS (fun q _ h => hFc q h) hFc (fun r7 u t H1 locs ht hvm hw hB1 hz1 hk1 hS => ?_)
          obtain ⟨hw1, hw2⟩ := hw
          subst hw1
          subst hw2
          have hP : va_P (dC, dI) vwC (mW k a (0, zC r, zW r, zG r, zP r, zS r, zH r, zR r, zO r, zD r, zL r)) H1 := by rw [← ht]; exact hB1
          have hD : va_D A (mW k a (0, zC r, zW r, zG r, zP r, zS r, zH r, zR r, zO r, zD r, zL r)) := mW_D hDk
          clear hFc hB1 hk1 hz1 ht hvm
          generalize H1 = H at hP hS ⊢
          refine lv_if_eq hx hb d_M_read_64 rfl (fun _ => ?_) (fun h9 => absurd (by decide) h9)
          refine lv_aload_n hx hb d_M_read_69 rfl (lv_at hl 0 rfl) ?_
          refine va_get (D := (dC, dI)) (ci := 2) (v := .ref (a 6)) (C := R_M) (T := F_M) (N := 11) hx hb hB in_M hown hK hP 0 rfl rfl 6 (by decide) (hB _ bw_361) (fun _ h9 => h9) rfl d_M_read_70 ?_
          refine lv_aload_n hx hb d_M_read_73 rfl (lv_at hl 0 rfl) ?_
          refine lv_iload_n hx hb d_M_read_74 rfl (lv_at hl 1 rfl) ?_
          refine lv_iload_n hx hb d_M_read_75 rfl (lv_at hl 2 rfl) ?_
          refine vp_callSi (va_Run.run (va_runV (As := [.int (nI j), .int (nI i)]) (rest := [.ref (a 6)]) ⟨hx, hb, hml, hown, hB⟩ (m_M_last l dC dI k a (0, zC r, zW r, zG r, zP r, zS r, zH r, zR r, zO r, zD r, zL r) j i (by omega) (by omega) hp1 hp5) (cwV 2 hB (BIG_V bw_397 bw_398 bw_11 bw_18 bw_399) rfl rfl rfl ⟨rfl, by decide, by decide, by decide +kernel⟩ ⟨Nat.le_of_ble_eq_true rfl, Nat.le_of_ble_eq_true rfl⟩) (mRc_pre _ hP hK) rfl rfl hl.1 rfl (lv_room (Nat.le_of_ble_eq_true rfl)) d_M_read_76 ⟨Nat.zero_le _, Nat.zero_le _⟩)) (fun r7 hr7 => ?_)
          refine W.eq (g2 := F0 m 79 ls [.int (nI (zAt r j i)), .ref (a 6)]) (by rw [hr7]; rfl) ?_
          refine va_zald hx hb hK hP 6 4 rfl rfl (pk_in (zAt r j i) 1280 (by omega)) d_M_read_79 ?_
          refine W.eq (g2 := F0 m 80 ls [.int (bI (zH r (zAt r j i)))]) (by rw [cl_nI (by omega)]) ?_
          refine W.eq (g2 := F0 m 80 ls [.int (bI false)]) (by rw [hh]) ?_
          refine lv_if_eq hx hb d_M_read_80 rfl (fun _ => ?_) (fun h9 => absurd (by decide) h9)
          refine lv_aload_n hx hb d_M_read_95 rfl (lv_at hl 0 rfl) ?_
          refine lv_iload_n hx hb d_M_read_96 rfl (lv_at hl 1 rfl) ?_
          refine vp_callSi (va_Run.run (va_runV (As := [.int (nI j)]) (rest := []) ⟨hx, hb, hml, hown, hB⟩ (m_M_isStale l dC dI k a (0, zC r, zW r, zG r, zP r, zS r, zH r, zR r, zO r, zD r, zL r) j hj) (cwV 1 hB (BIG_V bw_408 bw_409 bw_12 bw_18 bw_410) rfl rfl rfl ⟨rfl, by decide, by decide, by decide +kernel⟩ ⟨Nat.le_of_ble_eq_true rfl, Nat.le_of_ble_eq_true rfl⟩) (mRc_pre _ hP hK) rfl rfl hl.1 rfl (lv_room (Nat.le_of_ble_eq_true rfl)) d_M_read_97 ⟨Nat.zero_le _, Nat.zero_le _⟩)) (fun r7 hr7 => ?_)
          refine W.eq (g2 := F0 m 100 ls [.int (bI (zSt r j 32))]) (by rw [hr7, zSt_cg (r := (0, zC r, zW r, zG r, zP r, zS r, zH r, zR r, zO r, zD r, zL r)) (r2 := r) rfl rfl rfl]) ?_
          cases hs : zSt r j 32 with
          | true =>
            refine lv_if_eq hx hb d_M_read_100 rfl (fun h9 => absurd h9 (by decide)) (fun _ => ?_)
            refine lv_aload_n hx hb d_M_read_103 rfl (lv_at hl 0 rfl) ?_
            refine va_get (D := (dC, dI)) (ci := 2) (v := .ref (a 8)) (C := R_M) (T := F_M) (N := 11) hx hb hB in_M hown hK hP 0 rfl rfl 8 (by decide) (hB _ bw_363) (fun _ h9 => h9) rfl d_M_read_104 ?_
            refine lv_iload_n hx hb d_M_read_107 rfl (lv_at hl 1 rfl) ?_
            refine lv_iconst (v := bI false) hx hb d_M_read_108 (by decide) ?_
            refine va_zast hx hb hK hP hD hS 8 4 rfl rfl (pk_in j 8 (by omega)) d_M_read_109 (fun H locs hP hD hS => ?_)
            rw [cl_nI (by omega), bI_upd] at hP
            have hP : va_P (dC, dI) vwC (mW k a (0, zC r, zW r, zG r, zP r, zS r, zH r, zR r, va_up (zO r) j false, zD r, zL r)) H := hP
            have hD : va_D A (mW k a (0, zC r, zW r, zG r, zP r, zS r, zH r, zR r, va_up (zO r) j false, zD r, zL r)) := mW_D hDk
            refine lv_aload_n hx hb d_M_read_110 rfl (lv_at hl 0 rfl) ?_
            refine lv_dup hx hb d_M_read_111 rfl ?_
            refine va_get (D := (dC, dI)) (ci := 2) (v := .int (zL r)) (C := R_M) (T := F_M) (N := 11) hx hb hB in_M hown hK hP 0 rfl rfl 10 (by decide) (hB _ bw_365) (fun _ h9 => h9) rfl d_M_read_112 ?_
            refine lv_iconst (v := nI 1) hx hb d_M_read_115 (by decide) ?_
            refine lv_iadd hx hb d_M_read_116 ?_
            refine va_put (D := (dC, dI)) (ci := 2) (v := .int ((zL r) + (nI 1))) (ty := .int) (C := R_M) (T := F_M) (N := 11) hx hb hB in_M tf_M ty_M nm_M hown hK hP hD hS 0 rfl rfl 10 (by decide) (hB _ bw_365) (fun _ h9 => h9) rfl (by decide +kernel) rfl rfl (Nat.le_of_ble_eq_true rfl) d_M_read_117 (fun H locs hP hD hS => ?_)
            have hP : va_P (dC, dI) vwC (mW k a (0, zC r, zW r, zG r, zP r, zS r, zH r, zR r, va_up (zO r) j false, zD r, ((zL r) + (nI 1)))) H := hP
            have hD : va_D A (mW k a (0, zC r, zW r, zG r, zP r, zS r, zH r, zR r, va_up (zO r) j false, zD r, ((zL r) + (nI 1)))) := hD
            refine lv_aload_n hx hb d_M_read_120 rfl (lv_at hl 0 rfl) ?_
            refine lv_iconst (v := bI true) hx hb d_M_read_121 (by decide) ?_
            refine lv_iconst (v := 4) hx hb d_M_read_122 (by decide) ?_
            have hFc := va_free (wc := mW k a (0, zC r, zW r, zG r, zP r, zS r, zH r, zR r, va_up (zO r) j false, zD r, ((zL r) + (nI 1)))) hD hS hA [0, 1, 2, 3, 4, 5, 6, 7, 8] rfl
            refine va_calli (va_runV (As := [.int (bI true), .int 4]) (rest := []) ⟨hx, hb, hml, hown, hB⟩ (m_M_fails_t l dC dI k a _ (0, zC r, zW r, zG r, zP r, zS r, zH r, zR r, va_up (zO r) j false, zD r, ((zL r) + (nI 1))) 4 rfl (by decide)) (cwV 2 hB (BIG_V bw_394 bw_395 bw_10 bw_18 bw_396) rfl rfl rfl ⟨rfl, by decide, by decide, by decide +kernel⟩ ⟨Nat.le_of_ble_eq_true rfl, Nat.le_of_ble_eq_true rfl⟩) (mPc_pre _ hP hK hD) rfl rfl hl.1 rfl (lv_room (Nat.le_of_ble_eq_true rfl)) d_M_read_123 ⟨Nat.zero_le _, Nat.zero_le _⟩) hS (fun q _ h => hFc q h) hFc (fun r7 u t H1 locs ht hvm hw hB1 hz1 hk1 hS => ?_)
            obtain ⟨hw1, hw2⟩ := hw
            subst hw1
            subst hw2
            have hP : va_P (dC, dI) vwC (mW k a (zErr (0, zC r, zW r, zG r, zP r, zS r, zH r, zR r, va_up (zO r) j false, zD r, ((zL r) + (nI 1))) 4)) H1 := by rw [← ht]; exact hB1
            have hD : va_D A (mW k a (zErr (0, zC r, zW r, zG r, zP r, zS r, zH r, zR r, va_up (zO r) j false, zD r, ((zL r) + (nI 1))) 4)) := mW_D hDk
            clear hFc hB1 hk1 hz1 ht hvm
            generalize H1 = H at hP hS ⊢
            have hP : va_P (dC, dI) vwC (mW k a (4, zC r, zW r, zG r, zP r, zS r, zH r, zR r, va_up (zO r) j false, zD r, ((zL r) + (nI 1)))) H := hP
            have hD : va_D A (mW k a (4, zC r, zW r, zG r, zP r, zS r, zH r, zR r, va_up (zO r) j false, zD r, ((zL r) + (nI 1)))) := hD
            refine lv_pop hx hb d_M_read_126 rfl ?_
            refine lv_lconst (v := 0) hx hb d_M_read_127 (by decide) ?_
            exact W.lret (v := 0) hx hb hr (fun t ht hW => ⟨⟨0, (4, zC r, zW r, zG r, zP r, zS r, zH r, zR r, va_up (zO r) j false, zD r, ((zL r) + (nI 1))), rfl, by unfold zRead; rw [hq]; dsimp only; rw [hy]; dsimp only; rw [if_neg (by rw [ho]; decide)]; rw [if_neg (by rw [hh]; decide)]; rw [if_pos hs]; first | done | rfl, by show va_P (dC, dI) vwC _ t.heap; rw [ht]; exact hP⟩, hS.F ht⟩) hS.2.2 d_M_read_128
          | false =>
            cases hrd : zR r (32 * j + i) with
            | true =>
              refine lv_if_eq hx hb d_M_read_100 rfl (fun _ => ?_) (fun h9 => absurd (by decide) h9)
              refine lv_aload_n hx hb d_M_read_129 rfl (lv_at hl 0 rfl) ?_
              refine va_get (D := (dC, dI)) (ci := 2) (v := .ref (a 7)) (C := R_M) (T := F_M) (N := 11) hx hb hB in_M hown hK hP 0 rfl rfl 7 (by decide) (hB _ bw_362) (fun _ h9 => h9) rfl d_M_read_130 ?_
              refine lv_bipush (v := nI 32) hx hb d_M_read_133 (by decide) ?_
              refine lv_iload_n hx hb d_M_read_135 rfl (lv_at hl 1 rfl) ?_
              refine lv_imul hx hb d_M_read_136 ?_
              refine W.eq (g2 := F0 m 137 ls [.int (nI (32 * j)), .ref (a 7)]) (by rw [pk_mul]) ?_
              refine lv_iload_n hx hb d_M_read_137 rfl (lv_at hl 2 rfl) ?_
              refine lv_iadd hx hb d_M_read_138 ?_
              refine W.eq (g2 := F0 m 139 ls [.int (nI ((32 * j) + i)), .ref (a 7)]) (by rw [nI_add]) ?_
              refine va_zald hx hb hK hP 7 4 rfl rfl (pk_in ((32 * j) + i) 256 (by omega)) d_M_read_139 ?_
              refine W.eq (g2 := F0 m 140 ls [.int (bI (zR r ((32 * j) + i)))]) (by rw [cl_nI (by omega)]) ?_
              refine W.eq (g2 := F0 m 140 ls [.int (bI true)]) (by rw [hrd]) ?_
              refine lv_if_ne hx hb d_M_read_140 rfl (fun _ => ?_) (fun h9 => absurd h9 (by decide))
              refine lv_aload_n hx hb d_M_read_160 rfl (lv_at hl 0 rfl) ?_
              refine va_get (D := (dC, dI)) (ci := 2) (v := .ref (a 7)) (C := R_M) (T := F_M) (N := 11) hx hb hB in_M hown hK hP 0 rfl rfl 7 (by decide) (hB _ bw_362) (fun _ h9 => h9) rfl d_M_read_161 ?_
              refine lv_bipush (v := nI 32) hx hb d_M_read_164 (by decide) ?_
              refine lv_iload_n hx hb d_M_read_166 rfl (lv_at hl 1 rfl) ?_
              refine lv_imul hx hb d_M_read_167 ?_
              refine W.eq (g2 := F0 m 168 ls [.int (nI (32 * j)), .ref (a 7)]) (by rw [pk_mul]) ?_
              refine lv_iload_n hx hb d_M_read_168 rfl (lv_at hl 2 rfl) ?_
              refine lv_iadd hx hb d_M_read_169 ?_
              refine W.eq (g2 := F0 m 170 ls [.int (nI ((32 * j) + i)), .ref (a 7)]) (by rw [nI_add]) ?_
              refine lv_iconst (v := bI true) hx hb d_M_read_170 (by decide) ?_
              refine va_zast hx hb hK hP hD hS 7 4 rfl rfl (pk_in ((32 * j) + i) 256 (by omega)) d_M_read_171 (fun H locs hP hD hS => ?_)
              rw [cl_nI (by omega), bI_upd] at hP
              have hP : va_P (dC, dI) vwC (mW k a (0, zC r, zW r, zG r, zP r, zS r, zH r, va_up (zR r) ((32 * j) + i) true, zO r, zD r, zL r)) H := hP
              have hD : va_D A (mW k a (0, zC r, zW r, zG r, zP r, zS r, zH r, va_up (zR r) ((32 * j) + i) true, zO r, zD r, zL r)) := mW_D hDk
              refine lv_aload_n hx hb d_M_read_172 rfl (lv_at hl 0 rfl) ?_
              refine va_get (D := (dC, dI)) (ci := 2) (v := .ref (a 1)) (C := R_M) (T := F_M) (N := 11) hx hb hB in_M hown hK hP 0 rfl rfl 1 (by decide) (hB _ bw_356) (fun _ h9 => h9) rfl d_M_read_173 ?_
              refine lv_iload_n hx hb d_M_read_176 rfl (lv_at hl 2 rfl) ?_
              refine va_lald hx hb hK hP 1 1 rfl rfl (pk_in i 32 (by omega)) d_M_read_177 ?_
              refine W.eq (g2 := F0 m 178 ls [.long (zC r i)]) (by rw [cl_nI (by omega)]) ?_
              exact W.lret (v := zC r i) hx hb hr (fun t ht hW => ⟨⟨zC r i, (0, zC r, zW r, zG r, zP r, zS r, zH r, va_up (zR r) ((32 * j) + i) true, zO r, zD r, zL r), rfl, by unfold zRead; rw [hq]; dsimp only; rw [hy]; dsimp only; rw [if_neg (by rw [ho]; decide)]; rw [if_neg (by rw [hh]; decide)]; rw [if_neg (by rw [hs]; decide)]; rw [if_pos hrd]; first | done | rfl, by show va_P (dC, dI) vwC _ t.heap; rw [ht]; exact hP⟩, hS.F ht⟩) hS.2.2 d_M_read_178
            | false =>
              refine lv_if_eq hx hb d_M_read_100 rfl (fun _ => ?_) (fun h9 => absurd (by decide) h9)
              refine lv_aload_n hx hb d_M_read_129 rfl (lv_at hl 0 rfl) ?_
              refine va_get (D := (dC, dI)) (ci := 2) (v := .ref (a 7)) (C := R_M) (T := F_M) (N := 11) hx hb hB in_M hown hK hP 0 rfl rfl 7 (by decide) (hB _ bw_362) (fun _ h9 => h9) rfl d_M_read_130 ?_
              refine lv_bipush (v := nI 32) hx hb d_M_read_133 (by decide) ?_
              refine lv_iload_n hx hb d_M_read_135 rfl (lv_at hl 1 rfl) ?_
              refine lv_imul hx hb d_M_read_136 ?_
              refine W.eq (g2 := F0 m 137 ls [.int (nI (32 * j)), .ref (a 7)]) (by rw [pk_mul]) ?_
              refine lv_iload_n hx hb d_M_read_137 rfl (lv_at hl 2 rfl) ?_
              refine lv_iadd hx hb d_M_read_138 ?_
              refine W.eq (g2 := F0 m 139 ls [.int (nI ((32 * j) + i)), .ref (a 7)]) (by rw [nI_add]) ?_
              refine va_zald hx hb hK hP 7 4 rfl rfl (pk_in ((32 * j) + i) 256 (by omega)) d_M_read_139 ?_
              refine W.eq (g2 := F0 m 140 ls [.int (bI (zR r ((32 * j) + i)))]) (by rw [cl_nI (by omega)]) ?_
              refine W.eq (g2 := F0 m 140 ls [.int (bI false)]) (by rw [hrd]) ?_
              refine lv_if_ne hx hb d_M_read_140 rfl (fun h9 => absurd h9 (by decide)) (fun _ => ?_)
              refine lv_aload_n hx hb d_M_read_143 rfl (lv_at hl 0 rfl) ?_
              refine va_get (D := (dC, dI)) (ci := 2) (v := .ref (a 5)) (C := R_M) (T := F_M) (N := 11) hx hb hB in_M hown hK hP 0 rfl rfl 5 (by decide) (hB _ bw_360) (fun _ h9 => h9) rfl d_M_read_144 ?_
              refine lv_bipush (v := nI 32) hx hb d_M_read_147 (by decide) ?_
              refine lv_iload_n hx hb d_M_read_149 rfl (lv_at hl 1 rfl) ?_
              refine lv_imul hx hb d_M_read_150 ?_
              refine W.eq (g2 := F0 m 151 ls [.int (nI (32 * j)), .ref (a 5)]) (by rw [pk_mul]) ?_
              refine lv_iload_n hx hb d_M_read_151 rfl (lv_at hl 2 rfl) ?_
              refine lv_iadd hx hb d_M_read_152 ?_
              refine W.eq (g2 := F0 m 153 ls [.int (nI ((32 * j) + i)), .ref (a 5)]) (by rw [nI_add]) ?_
              refine lv_aload_n hx hb d_M_read_153 rfl (lv_at hl 0 rfl) ?_
              refine va_get (D := (dC, dI)) (ci := 2) (v := .ref (a 3)) (C := R_M) (T := F_M) (N := 11) hx hb hB in_M hown hK hP 0 rfl rfl 3 (by decide) (hB _ bw_358) (fun _ h9 => h9) rfl d_M_read_154 ?_
              refine lv_iload_n hx hb d_M_read_157 rfl (lv_at hl 2 rfl) ?_
              refine va_iald hx hb hK hP 3 0 rfl rfl (pk_in i 32 (by omega)) d_M_read_158 ?_
              refine W.eq (g2 := F0 m 159 ls [.int (zG r i), .int (nI ((32 * j) + i)), .ref (a 5)]) (by rw [cl_nI (by omega)]) ?_
              refine va_iast hx hb hK hP hD hS 5 0 rfl rfl (pk_in ((32 * j) + i) 256 (by omega)) d_M_read_159 (fun H locs hP hD hS => ?_)
              rw [cl_nI (by omega)] at hP
              have hP : va_P (dC, dI) vwC (mW k a (0, zC r, zW r, zG r, zP r, upd (zS r) ((32 * j) + i) (zG r i), zH r, zR r, zO r, zD r, zL r)) H := hP
              have hD : va_D A (mW k a (0, zC r, zW r, zG r, zP r, upd (zS r) ((32 * j) + i) (zG r i), zH r, zR r, zO r, zD r, zL r)) := mW_D hDk
              refine lv_aload_n hx hb d_M_read_160 rfl (lv_at hl 0 rfl) ?_
              refine va_get (D := (dC, dI)) (ci := 2) (v := .ref (a 7)) (C := R_M) (T := F_M) (N := 11) hx hb hB in_M hown hK hP 0 rfl rfl 7 (by decide) (hB _ bw_362) (fun _ h9 => h9) rfl d_M_read_161 ?_
              refine lv_bipush (v := nI 32) hx hb d_M_read_164 (by decide) ?_
              refine lv_iload_n hx hb d_M_read_166 rfl (lv_at hl 1 rfl) ?_
              refine lv_imul hx hb d_M_read_167 ?_
              refine W.eq (g2 := F0 m 168 ls [.int (nI (32 * j)), .ref (a 7)]) (by rw [pk_mul]) ?_
              refine lv_iload_n hx hb d_M_read_168 rfl (lv_at hl 2 rfl) ?_
              refine lv_iadd hx hb d_M_read_169 ?_
              refine W.eq (g2 := F0 m 170 ls [.int (nI ((32 * j) + i)), .ref (a 7)]) (by rw [nI_add]) ?_
              refine lv_iconst (v := bI true) hx hb d_M_read_170 (by decide) ?_
              refine va_zast hx hb hK hP hD hS 7 4 rfl rfl (pk_in ((32 * j) + i) 256 (by omega)) d_M_read_171 (fun H locs hP hD hS => ?_)
              rw [cl_nI (by omega), bI_upd] at hP
              have hP : va_P (dC, dI) vwC (mW k a (0, zC r, zW r, zG r, zP r, upd (zS r) ((32 * j) + i) (zG r i), zH r, va_up (zR r) ((32 * j) + i) true, zO r, zD r, zL r)) H := hP
              have hD : va_D A (mW k a (0, zC r, zW r, zG r, zP r, upd (zS r) ((32 * j) + i) (zG r i), zH r, va_up (zR r) ((32 * j) + i) true, zO r, zD r, zL r)) := mW_D hDk
              refine lv_aload_n hx hb d_M_read_172 rfl (lv_at hl 0 rfl) ?_
              refine va_get (D := (dC, dI)) (ci := 2) (v := .ref (a 1)) (C := R_M) (T := F_M) (N := 11) hx hb hB in_M hown hK hP 0 rfl rfl 1 (by decide) (hB _ bw_356) (fun _ h9 => h9) rfl d_M_read_173 ?_
              refine lv_iload_n hx hb d_M_read_176 rfl (lv_at hl 2 rfl) ?_
              refine va_lald hx hb hK hP 1 1 rfl rfl (pk_in i 32 (by omega)) d_M_read_177 ?_
              refine W.eq (g2 := F0 m 178 ls [.long (zC r i)]) (by rw [cl_nI (by omega)]) ?_
              exact W.lret (v := zC r i) hx hb hr (fun t ht hW => ⟨⟨zC r i, (0, zC r, zW r, zG r, zP r, upd (zS r) ((32 * j) + i) (zG r i), zH r, va_up (zR r) ((32 * j) + i) true, zO r, zD r, zL r), rfl, by unfold zRead; rw [hq]; dsimp only; rw [hy]; dsimp only; rw [if_neg (by rw [ho]; decide)]; rw [if_neg (by rw [hh]; decide)]; rw [if_neg (by rw [hs]; decide)]; rw [if_neg (by rw [hrd]; decide)]; first | done | rfl, by show va_P (dC, dI) vwC _ t.heap; rw [ht]; exact hP⟩, hS.F ht⟩) hS.2.2 d_M_read_178
set_option maxHeartbeats 4000000 in
set_option maxRecDepth 100000 in
theorem m_M_done (l : Launch) (dC : Nat → ClassId) (dI : Nat → Nat → Nat) (k : Nat → ClassId) (a : Nat → Nat) (sz : Nat) (r : xRS) (tt : Int32) (hok : mOk r) : Met l y_M_done w_M_done (rmx 2 0 0 80) (mPc dC dI k a sz r [.ref (a 0), .int tt]) (va_Qi (fun o u => ∃ b8, o = bI b8 ∧ (b8, u) = zDone r tt) (mB dC dI k a) (va_A (mW k a r) sz)) 0 0 (va_A (mW k a r) sz) := by
  refine Met.ofW (cc := c_M_done) (maxL := 3) (ret := (some .boolean)) (by decide) rfl ?_
  intro p e s m args below meth c s₁ B hml hv
  obtain ⟨rfl, hsz, hP, hK, hD0⟩ := hv
  have hx := B.exec
  have hb := B.bytes
  have hr := B.returns
  have hts := atoms_spec (ws := w_M_done) B.pre
  have hB : ∀ w ∈ BIG, w.before _ s = true := fun w h => hts w (List.mem_cons_of_mem _ h)
  have hown : s.vm.findClass R_M = some m.cls := findClass_of_methodNamed B.named
  have hlocks := B.notSynchronized
  have hl := lv_entry ([.ref (a 0), .int tt]) (n := 3) (Nat.le_of_ble_eq_true rfl)
  rw [lg_entry_eq]
  generalize (lg_sl ([.ref (a 0), .int tt]) ++ List.replicate (3 - (lg_sl ([.ref (a 0), .int tt])).length) Slot.unset).toArray = ls at hl ⊢
  have hl : lv_has ls 3 [(0, .ref (a 0)), (1, .int tt)] := hl
  subst hsz
  have hD := hD0.self (sz := s.heap.size)
  generalize hAe : va_A (mW k a r) s.heap.size = A at hD ⊢
  have hA : ∀ q : Nat, s.heap.size ≤ q → A q := fun q h => by rw [← hAe]; exact Or.inr h
  have hS : va_S A s.heap s.heap [] := va_S.rf
  have hDk := hD
  cases hq : ix 8 tt with
  | none =>
    refine lv_aload_n hx hb d_M_done_0 rfl (lv_at hl 0 rfl) ?_
    refine lv_iconst (v := 0) hx hb d_M_done_1 (by decide) ?_
    refine va_put (D := (dC, dI)) (ci := 2) (v := .int 0) (ty := .int) (C := R_M) (T := F_M) (N := 11) hx hb hB in_M tf_M ty_M nm_M hown hK hP hD hS 0 rfl rfl 0 (by decide) (hB _ bw_355) (fun _ h9 => h9) rfl (by decide +kernel) rfl rfl (Nat.le_of_ble_eq_true rfl) d_M_done_2 (fun H locs hP hD hS => ?_)
    have hP : va_P (dC, dI) vwC (mW k a (0, zC r, zW r, zG r, zP r, zS r, zH r, zR r, zO r, zD r, zL r)) H := hP
    have hD : va_D A (mW k a (0, zC r, zW r, zG r, zP r, zS r, zH r, zR r, zO r, zD r, zL r)) := hD
    refine lv_aload_n hx hb d_M_done_5 rfl (lv_at hl 0 rfl) ?_
    refine lv_iload_n hx hb d_M_done_6 rfl (lv_at hl 1 rfl) ?_
    refine vp_callSi (va_Run.run (va_runS (As := [.int tt]) (rest := [.ref (a 0)]) ⟨hx, hb, hml, hown, hB⟩ (m_M_isOne l tt) (va_cwS 1 hB (BIG_SS bw_387 bw_388 bw_18 bw_389) rfl rfl rfl ⟨by decide, by decide, by decide +kernel⟩ ⟨Nat.le_of_ble_eq_true rfl, Nat.le_of_ble_eq_true rfl⟩) preEq rfl rfl hl.1 rfl (lv_room (Nat.le_of_ble_eq_true rfl)) d_M_done_7 ⟨Nat.zero_le _, Nat.zero_le _⟩)) (fun r7 hr7 => ?_)
    refine W.eq (g2 := F0 m 10 ls [.int (bI false), .ref (a 0)]) (by rw [hr7, hq]; rfl) ?_
    refine lv_if_ne hx hb d_M_done_10 rfl (fun h9 => absurd h9 (by decide)) (fun _ => ?_)
    refine lv_iconst (v := bI true) hx hb d_M_done_13 (by decide) ?_
    refine lv_goto hx hb d_M_done_14 rfl ?_
    refine lv_iconst (v := 1) hx hb d_M_done_18 (by decide) ?_
    have hFc := va_free (wc := mW k a (0, zC r, zW r, zG r, zP r, zS r, zH r, zR r, zO r, zD r, zL r)) hD hS hA [0, 1, 2, 3, 4, 5, 6, 7, 8] rfl
    refine va_calli (va_runV (As := [.int (bI true), .int 1]) (rest := []) ⟨hx, hb, hml, hown, hB⟩ (m_M_fails_t l dC dI k a _ (0, zC r, zW r, zG r, zP r, zS r, zH r, zR r, zO r, zD r, zL r) 1 rfl (by decide)) (cwV 2 hB (BIG_V bw_394 bw_395 bw_10 bw_18 bw_396) rfl rfl rfl ⟨rfl, by decide, by decide, by decide +kernel⟩ ⟨Nat.le_of_ble_eq_true rfl, Nat.le_of_ble_eq_true rfl⟩) (mPc_pre _ hP hK hD) rfl rfl hl.1 rfl (lv_room (Nat.le_of_ble_eq_true rfl)) d_M_done_19 ⟨Nat.zero_le _, Nat.zero_le _⟩) hS (fun q _ h => hFc q h) hFc (fun r7 u t H1 locs ht hvm hw hB1 hz1 hk1 hS => ?_)
    obtain ⟨hw1, hw2⟩ := hw
    subst hw1
    subst hw2
    have hP : va_P (dC, dI) vwC (mW k a (zErr (0, zC r, zW r, zG r, zP r, zS r, zH r, zR r, zO r, zD r, zL r) 1)) H1 := by rw [← ht]; exact hB1
    have hD : va_D A (mW k a (zErr (0, zC r, zW r, zG r, zP r, zS r, zH r, zR r, zO r, zD r, zL r) 1)) := mW_D hDk
    clear hFc hB1 hk1 hz1 ht hvm
    generalize H1 = H at hP hS ⊢
    have hP : va_P (dC, dI) vwC (mW k a (1, zC r, zW r, zG r, zP r, zS r, zH r, zR r, zO r, zD r, zL r)) H := hP
    have hD : va_D A (mW k a (1, zC r, zW r, zG r, zP r, zS r, zH r, zR r, zO r, zD r, zL r)) := hD
    refine lv_if_ne hx hb d_M_done_22 rfl (fun _ => ?_) (fun h9 => absurd h9 (by decide))
    refine lv_iconst (v := bI false) hx hb d_M_done_47 (by decide) ?_
    exact W.zret (v := bI false) hx hb hr (bI_nar _) (fun t ht hW => ⟨⟨bI false, (1, zC r, zW r, zG r, zP r, zS r, zH r, zR r, zO r, zD r, zL r), rfl, ⟨false, rfl, by unfold zDone; rw [hq]; first | done | rfl⟩, by show va_P (dC, dI) vwC _ t.heap; rw [ht]; exact hP⟩, hS.F ht⟩) hS.2.2 d_M_done_48
  | some j =>
    obtain ⟨hj, htj⟩ := ix_some (by decide) hq
    subst htj
    cases ho : zO r j with
    | false =>
      refine lv_aload_n hx hb d_M_done_0 rfl (lv_at hl 0 rfl) ?_
      refine lv_iconst (v := 0) hx hb d_M_done_1 (by decide) ?_
      refine va_put (D := (dC, dI)) (ci := 2) (v := .int 0) (ty := .int) (C := R_M) (T := F_M) (N := 11) hx hb hB in_M tf_M ty_M nm_M hown hK hP hD hS 0 rfl rfl 0 (by decide) (hB _ bw_355) (fun _ h9 => h9) rfl (by decide +kernel) rfl rfl (Nat.le_of_ble_eq_true rfl) d_M_done_2 (fun H locs hP hD hS => ?_)
      have hP : va_P (dC, dI) vwC (mW k a (0, zC r, zW r, zG r, zP r, zS r, zH r, zR r, zO r, zD r, zL r)) H := hP
      have hD : va_D A (mW k a (0, zC r, zW r, zG r, zP r, zS r, zH r, zR r, zO r, zD r, zL r)) := hD
      refine lv_aload_n hx hb d_M_done_5 rfl (lv_at hl 0 rfl) ?_
      refine lv_iload_n hx hb d_M_done_6 rfl (lv_at hl 1 rfl) ?_
      refine vp_callSi (va_Run.run (va_runS (As := [.int (nI j)]) (rest := [.ref (a 0)]) ⟨hx, hb, hml, hown, hB⟩ (m_M_isOne l (nI j)) (va_cwS 1 hB (BIG_SS bw_387 bw_388 bw_18 bw_389) rfl rfl rfl ⟨by decide, by decide, by decide +kernel⟩ ⟨Nat.le_of_ble_eq_true rfl, Nat.le_of_ble_eq_true rfl⟩) preEq rfl rfl hl.1 rfl (lv_room (Nat.le_of_ble_eq_true rfl)) d_M_done_7 ⟨Nat.zero_le _, Nat.zero_le _⟩)) (fun r7 hr7 => ?_)
      refine W.eq (g2 := F0 m 10 ls [.int (bI true), .ref (a 0)]) (by rw [hr7, hq]; rfl) ?_
      refine lv_if_ne hx hb d_M_done_10 rfl (fun _ => ?_) (fun h9 => absurd h9 (by decide))
      refine lv_iconst (v := bI false) hx hb d_M_done_17 (by decide) ?_
      refine lv_iconst (v := 1) hx hb d_M_done_18 (by decide) ?_
      have hFc := va_free (wc := mW k a (0, zC r, zW r, zG r, zP r, zS r, zH r, zR r, zO r, zD r, zL r)) hD hS hA [0, 1, 2, 3, 4, 5, 6, 7, 8] rfl
      refine va_calli (va_runV (As := [.int (bI false), .int 1]) (rest := []) ⟨hx, hb, hml, hown, hB⟩ (m_M_fails_f l dC dI k a _ (0, zC r, zW r, zG r, zP r, zS r, zH r, zR r, zO r, zD r, zL r) 1 rfl) (cwV 2 hB (BIG_V bw_394 bw_395 bw_10 bw_18 bw_396) rfl rfl rfl ⟨rfl, by decide, by decide, by decide +kernel⟩ ⟨Nat.le_of_ble_eq_true rfl, Nat.le_of_ble_eq_true rfl⟩) (mPc_pre _ hP hK hD) rfl rfl hl.1 rfl (lv_room (Nat.le_of_ble_eq_true rfl)) d_M_done_19 ⟨Nat.zero_le _, Nat.zero_le _⟩) hS (fun q _ h => hFc q h) hFc (fun r7 u t H1 locs ht hvm hw hB1 hz1 hk1 hS => ?_)
      obtain ⟨hw1, hw2⟩ := hw
      subst hw1
      subst hw2
      have hP : va_P (dC, dI) vwC (mW k a (0, zC r, zW r, zG r, zP r, zS r, zH r, zR r, zO r, zD r, zL r)) H1 := by rw [← ht]; exact hB1
      have hD : va_D A (mW k a (0, zC r, zW r, zG r, zP r, zS r, zH r, zR r, zO r, zD r, zL r)) := mW_D hDk
      clear hFc hB1 hk1 hz1 ht hvm
      generalize H1 = H at hP hS ⊢
      refine lv_if_ne hx hb d_M_done_22 rfl (fun h9 => absurd h9 (by decide)) (fun _ => ?_)
      refine lv_aload_n hx hb d_M_done_25 rfl (lv_at hl 0 rfl) ?_
      refine lv_aload_n hx hb d_M_done_26 rfl (lv_at hl 0 rfl) ?_
      refine va_get (D := (dC, dI)) (ci := 2) (v := .ref (a 8)) (C := R_M) (T := F_M) (N := 11) hx hb hB in_M hown hK hP 0 rfl rfl 8 (by decide) (hB _ bw_363) (fun _ h9 => h9) rfl d_M_done_27 ?_
      refine lv_iload_n hx hb d_M_done_30 rfl (lv_at hl 1 rfl) ?_
      refine va_zald hx hb hK hP 8 4 rfl rfl (pk_in j 8 (by omega)) d_M_done_31 ?_
      refine W.eq (g2 := F0 m 32 ls [.int (bI (zO r j)), .ref (a 0)]) (by rw [cl_nI (by omega)]) ?_
      refine W.eq (g2 := F0 m 32 ls [.int (bI false), .ref (a 0)]) (by rw [ho]) ?_
      refine lv_if_ne hx hb d_M_done_32 rfl (fun h9 => absurd h9 (by decide)) (fun _ => ?_)
      refine lv_iconst (v := bI true) hx hb d_M_done_35 (by decide) ?_
      refine lv_goto hx hb d_M_done_36 rfl ?_
      refine lv_iconst (v := 2) hx hb d_M_done_40 (by decide) ?_
      have hFc := va_free (wc := mW k a (0, zC r, zW r, zG r, zP r, zS r, zH r, zR r, zO r, zD r, zL r)) hD hS hA [0, 1, 2, 3, 4, 5, 6, 7, 8] rfl
      refine va_calli (va_runV (As := [.int (bI true), .int 2]) (rest := []) ⟨hx, hb, hml, hown, hB⟩ (m_M_fails_t l dC dI k a _ (0, zC r, zW r, zG r, zP r, zS r, zH r, zR r, zO r, zD r, zL r) 2 rfl (by decide)) (cwV 2 hB (BIG_V bw_394 bw_395 bw_10 bw_18 bw_396) rfl rfl rfl ⟨rfl, by decide, by decide, by decide +kernel⟩ ⟨Nat.le_of_ble_eq_true rfl, Nat.le_of_ble_eq_true rfl⟩) (mPc_pre _ hP hK hD) rfl rfl hl.1 rfl (lv_room (Nat.le_of_ble_eq_true rfl)) d_M_done_41 ⟨Nat.zero_le _, Nat.zero_le _⟩) hS (fun q _ h => hFc q h) hFc (fun r7 u t H1 locs ht hvm hw hB1 hz1 hk1 hS => ?_)
      obtain ⟨hw1, hw2⟩ := hw
      subst hw1
      subst hw2
      have hP : va_P (dC, dI) vwC (mW k a (zErr (0, zC r, zW r, zG r, zP r, zS r, zH r, zR r, zO r, zD r, zL r) 2)) H1 := by rw [← ht]; exact hB1
      have hD : va_D A (mW k a (zErr (0, zC r, zW r, zG r, zP r, zS r, zH r, zR r, zO r, zD r, zL r) 2)) := mW_D hDk
      clear hFc hB1 hk1 hz1 ht hvm
      generalize H1 = H at hP hS ⊢
      have hP : va_P (dC, dI) vwC (mW k a (2, zC r, zW r, zG r, zP r, zS r, zH r, zR r, zO r, zD r, zL r)) H := hP
      have hD : va_D A (mW k a (2, zC r, zW r, zG r, zP r, zS r, zH r, zR r, zO r, zD r, zL r)) := hD
      refine lv_if_eq hx hb d_M_done_44 rfl (fun h9 => absurd h9 (by decide)) (fun _ => ?_)
      refine lv_iconst (v := bI false) hx hb d_M_done_47 (by decide) ?_
      exact W.zret (v := bI false) hx hb hr (bI_nar _) (fun t ht hW => ⟨⟨bI false, (2, zC r, zW r, zG r, zP r, zS r, zH r, zR r, zO r, zD r, zL r), rfl, ⟨false, rfl, by unfold zDone; rw [hq]; dsimp only; rw [if_pos ho]; first | done | rfl⟩, by show va_P (dC, dI) vwC _ t.heap; rw [ht]; exact hP⟩, hS.F ht⟩) hS.2.2 d_M_done_48
    | true =>
      obtain ⟨hp1, hp5⟩ := hok j hj ho
      refine lv_aload_n hx hb d_M_done_0 rfl (lv_at hl 0 rfl) ?_
      refine lv_iconst (v := 0) hx hb d_M_done_1 (by decide) ?_
      refine va_put (D := (dC, dI)) (ci := 2) (v := .int 0) (ty := .int) (C := R_M) (T := F_M) (N := 11) hx hb hB in_M tf_M ty_M nm_M hown hK hP hD hS 0 rfl rfl 0 (by decide) (hB _ bw_355) (fun _ h9 => h9) rfl (by decide +kernel) rfl rfl (Nat.le_of_ble_eq_true rfl) d_M_done_2 (fun H locs hP hD hS => ?_)
      have hP : va_P (dC, dI) vwC (mW k a (0, zC r, zW r, zG r, zP r, zS r, zH r, zR r, zO r, zD r, zL r)) H := hP
      have hD : va_D A (mW k a (0, zC r, zW r, zG r, zP r, zS r, zH r, zR r, zO r, zD r, zL r)) := hD
      refine lv_aload_n hx hb d_M_done_5 rfl (lv_at hl 0 rfl) ?_
      refine lv_iload_n hx hb d_M_done_6 rfl (lv_at hl 1 rfl) ?_
      refine vp_callSi (va_Run.run (va_runS (As := [.int (nI j)]) (rest := [.ref (a 0)]) ⟨hx, hb, hml, hown, hB⟩ (m_M_isOne l (nI j)) (va_cwS 1 hB (BIG_SS bw_387 bw_388 bw_18 bw_389) rfl rfl rfl ⟨by decide, by decide, by decide +kernel⟩ ⟨Nat.le_of_ble_eq_true rfl, Nat.le_of_ble_eq_true rfl⟩) preEq rfl rfl hl.1 rfl (lv_room (Nat.le_of_ble_eq_true rfl)) d_M_done_7 ⟨Nat.zero_le _, Nat.zero_le _⟩)) (fun r7 hr7 => ?_)
      refine W.eq (g2 := F0 m 10 ls [.int (bI true), .ref (a 0)]) (by rw [hr7, hq]; rfl) ?_
      refine lv_if_ne hx hb d_M_done_10 rfl (fun _ => ?_) (fun h9 => absurd h9 (by decide))
      refine lv_iconst (v := bI false) hx hb d_M_done_17 (by decide) ?_
      refine lv_iconst (v := 1) hx hb d_M_done_18 (by decide) ?_
      have hFc := va_free (wc := mW k a (0, zC r, zW r, zG r, zP r, zS r, zH r, zR r, zO r, zD r, zL r)) hD hS hA [0, 1, 2, 3, 4, 5, 6, 7, 8] rfl
      refine va_calli (va_runV (As := [.int (bI false), .int 1]) (rest := []) ⟨hx, hb, hml, hown, hB⟩ (m_M_fails_f l dC dI k a _ (0, zC r, zW r, zG r, zP r, zS r, zH r, zR r, zO r, zD r, zL r) 1 rfl) (cwV 2 hB (BIG_V bw_394 bw_395 bw_10 bw_18 bw_396) rfl rfl rfl ⟨rfl, by decide, by decide, by decide +kernel⟩ ⟨Nat.le_of_ble_eq_true rfl, Nat.le_of_ble_eq_true rfl⟩) (mPc_pre _ hP hK hD) rfl rfl hl.1 rfl (lv_room (Nat.le_of_ble_eq_true rfl)) d_M_done_19 ⟨Nat.zero_le _, Nat.zero_le _⟩) hS (fun q _ h => hFc q h) hFc (fun r7 u t H1 locs ht hvm hw hB1 hz1 hk1 hS => ?_)
      obtain ⟨hw1, hw2⟩ := hw
      subst hw1
      subst hw2
      have hP : va_P (dC, dI) vwC (mW k a (0, zC r, zW r, zG r, zP r, zS r, zH r, zR r, zO r, zD r, zL r)) H1 := by rw [← ht]; exact hB1
      have hD : va_D A (mW k a (0, zC r, zW r, zG r, zP r, zS r, zH r, zR r, zO r, zD r, zL r)) := mW_D hDk
      clear hFc hB1 hk1 hz1 ht hvm
      generalize H1 = H at hP hS ⊢
      refine lv_if_ne hx hb d_M_done_22 rfl (fun h9 => absurd h9 (by decide)) (fun _ => ?_)
      refine lv_aload_n hx hb d_M_done_25 rfl (lv_at hl 0 rfl) ?_
      refine lv_aload_n hx hb d_M_done_26 rfl (lv_at hl 0 rfl) ?_
      refine va_get (D := (dC, dI)) (ci := 2) (v := .ref (a 8)) (C := R_M) (T := F_M) (N := 11) hx hb hB in_M hown hK hP 0 rfl rfl 8 (by decide) (hB _ bw_363) (fun _ h9 => h9) rfl d_M_done_27 ?_
      refine lv_iload_n hx hb d_M_done_30 rfl (lv_at hl 1 rfl) ?_
      refine va_zald hx hb hK hP 8 4 rfl rfl (pk_in j 8 (by omega)) d_M_done_31 ?_
      refine W.eq (g2 := F0 m 32 ls [.int (bI (zO r j)), .ref (a 0)]) (by rw [cl_nI (by omega)]) ?_
      refine W.eq (g2 := F0 m 32 ls [.int (bI true), .ref (a 0)]) (by rw [ho]) ?_
      refine lv_if_ne hx hb d_M_done_32 rfl (fun _ => ?_) (fun h9 => absurd h9 (by decide))
      refine lv_iconst (v := bI false) hx hb d_M_done_39 (by decide) ?_
      refine lv_iconst (v := 2) hx hb d_M_done_40 (by decide) ?_
      have hFc := va_free (wc := mW k a (0, zC r, zW r, zG r, zP r, zS r, zH r, zR r, zO r, zD r, zL r)) hD hS hA [0, 1, 2, 3, 4, 5, 6, 7, 8] rfl
      refine va_calli (va_runV (As := [.int (bI false), .int 2]) (rest := []) ⟨hx, hb, hml, hown, hB⟩ (m_M_fails_f l dC dI k a _ (0, zC r, zW r, zG r, zP r, zS r, zH r, zR r, zO r, zD r, zL r) 2 rfl) (cwV 2 hB (BIG_V bw_394 bw_395 bw_10 bw_18 bw_396) rfl rfl rfl ⟨rfl, by decide, by decide, by decide +kernel⟩ ⟨Nat.le_of_ble_eq_true rfl, Nat.le_of_ble_eq_true rfl⟩) (mPc_pre _ hP hK hD) rfl rfl hl.1 rfl (lv_room (Nat.le_of_ble_eq_true rfl)) d_M_done_41 ⟨Nat.zero_le _, Nat.zero_le _⟩) hS (fun q _ h => hFc q h) hFc (fun r7 u t H1 locs ht hvm hw hB1 hz1 hk1 hS => ?_)
      obtain ⟨hw1, hw2⟩ := hw
      subst hw1
      subst hw2
      have hP : va_P (dC, dI) vwC (mW k a (0, zC r, zW r, zG r, zP r, zS r, zH r, zR r, zO r, zD r, zL r)) H1 := by rw [← ht]; exact hB1
      have hD : va_D A (mW k a (0, zC r, zW r, zG r, zP r, zS r, zH r, zR r, zO r, zD r, zL r)) := mW_D hDk
      clear hFc hB1 hk1 hz1 ht hvm
      generalize H1 = H at hP hS ⊢
      refine lv_if_eq hx hb d_M_done_44 rfl (fun _ => ?_) (fun h9 => absurd (by decide) h9)
      refine lv_aload_n hx hb d_M_done_49 rfl (lv_at hl 0 rfl) ?_
      refine va_get (D := (dC, dI)) (ci := 2) (v := .ref (a 8)) (C := R_M) (T := F_M) (N := 11) hx hb hB in_M hown hK hP 0 rfl rfl 8 (by decide) (hB _ bw_363) (fun _ h9 => h9) rfl d_M_done_50 ?_
      refine lv_iload_n hx hb d_M_done_53 rfl (lv_at hl 1 rfl) ?_
      refine lv_iconst (v := bI false) hx hb d_M_done_54 (by decide) ?_
      refine va_zast hx hb hK hP hD hS 8 4 rfl rfl (pk_in j 8 (by omega)) d_M_done_55 (fun H locs hP hD hS => ?_)
      rw [cl_nI (by omega), bI_upd] at hP
      have hP : va_P (dC, dI) vwC (mW k a (0, zC r, zW r, zG r, zP r, zS r, zH r, zR r, va_up (zO r) j false, zD r, zL r)) H := hP
      have hD : va_D A (mW k a (0, zC r, zW r, zG r, zP r, zS r, zH r, zR r, va_up (zO r) j false, zD r, zL r)) := mW_D hDk
      refine lv_aload_n hx hb d_M_done_56 rfl (lv_at hl 0 rfl) ?_
      refine lv_iload_n hx hb d_M_done_57 rfl (lv_at hl 1 rfl) ?_
      refine vp_callSi (va_Run.run (va_runV (As := [.int (nI j)]) (rest := []) ⟨hx, hb, hml, hown, hB⟩ (m_M_isStale l dC dI k a (0, zC r, zW r, zG r, zP r, zS r, zH r, zR r, va_up (zO r) j false, zD r, zL r) j hj) (cwV 1 hB (BIG_V bw_408 bw_409 bw_12 bw_18 bw_410) rfl rfl rfl ⟨rfl, by decide, by decide, by decide +kernel⟩ ⟨Nat.le_of_ble_eq_true rfl, Nat.le_of_ble_eq_true rfl⟩) (mRc_pre _ hP hK) rfl rfl hl.1 rfl (lv_room (Nat.le_of_ble_eq_true rfl)) d_M_done_58 ⟨Nat.zero_le _, Nat.zero_le _⟩)) (fun r7 hr7 => ?_)
      refine W.eq (g2 := F0 m 61 ls [.int (bI (zSt r j 32))]) (by rw [hr7, zSt_cg (r := (0, zC r, zW r, zG r, zP r, zS r, zH r, zR r, va_up (zO r) j false, zD r, zL r)) (r2 := r) rfl rfl rfl]) ?_
      cases hs : zSt r j 32 with
      | true =>
        refine lv_if_eq hx hb d_M_done_61 rfl (fun h9 => absurd h9 (by decide)) (fun _ => ?_)
        refine lv_aload_n hx hb d_M_done_64 rfl (lv_at hl 0 rfl) ?_
        refine lv_dup hx hb d_M_done_65 rfl ?_
        refine va_get (D := (dC, dI)) (ci := 2) (v := .int (zL r)) (C := R_M) (T := F_M) (N := 11) hx hb hB in_M hown hK hP 0 rfl rfl 10 (by decide) (hB _ bw_365) (fun _ h9 => h9) rfl d_M_done_66 ?_
        refine lv_iconst (v := nI 1) hx hb d_M_done_69 (by decide) ?_
        refine lv_iadd hx hb d_M_done_70 ?_
        refine va_put (D := (dC, dI)) (ci := 2) (v := .int ((zL r) + (nI 1))) (ty := .int) (C := R_M) (T := F_M) (N := 11) hx hb hB in_M tf_M ty_M nm_M hown hK hP hD hS 0 rfl rfl 10 (by decide) (hB _ bw_365) (fun _ h9 => h9) rfl (by decide +kernel) rfl rfl (Nat.le_of_ble_eq_true rfl) d_M_done_71 (fun H locs hP hD hS => ?_)
        have hP : va_P (dC, dI) vwC (mW k a (0, zC r, zW r, zG r, zP r, zS r, zH r, zR r, va_up (zO r) j false, zD r, ((zL r) + (nI 1)))) H := hP
        have hD : va_D A (mW k a (0, zC r, zW r, zG r, zP r, zS r, zH r, zR r, va_up (zO r) j false, zD r, ((zL r) + (nI 1)))) := hD
        refine lv_iconst (v := bI false) hx hb d_M_done_74 (by decide) ?_
        exact W.zret (v := bI false) hx hb hr (bI_nar _) (fun t ht hW => ⟨⟨bI false, (0, zC r, zW r, zG r, zP r, zS r, zH r, zR r, va_up (zO r) j false, zD r, ((zL r) + (nI 1))), rfl, ⟨false, rfl, by unfold zDone; rw [hq]; dsimp only; rw [if_neg (by rw [ho]; decide)]; rw [if_pos hs]; first | done | rfl⟩, by show va_P (dC, dI) vwC _ t.heap; rw [ht]; exact hP⟩, hS.F ht⟩) hS.2.2 d_M_done_75
      | false =>
        refine lv_if_eq hx hb d_M_done_61 rfl (fun _ => ?_) (fun h9 => absurd (by decide) h9)
        refine lv_iconst (v := nI 0) hx hb d_M_done_76 (by decide) ?_
        refine lv_istore_n hx hb d_M_done_77 rfl hl (by decide) rfl (fun ls hl => ?_)
        have hl : lv_has ls 3 [(2, .int (nI 0)), (0, .ref (a 0)), (1, .int (nI j))] := hl
        suffices key : ∀ n i (H : Heap) (locs : List Loc) (ls : Array Slot), i ≤ 32 → 32 - i = n → lv_has ls 3 [(2, .int (nI i)), (0, .ref (a 0)), (1, .int (nI j))] → va_P (dC, dI) vwC (mW k a (0, (zDoneN r j i).1, zW r, (zDoneN r j i).2, zP r, zS r, zH r, zR r, va_up (zO r) j false, zD r, zL r)) H → va_S A s.heap H locs → W p l e _ s m _ below meth c H locs 0 0 (MQ below (va_Qi (fun o u => ∃ b8, o = bI b8 ∧ (b8, u) = zDone r (nI j)) (mB dC dI k a) A) _ s 0 0 A) (F0 m 78 ls []) from key _ 0 _ _ ls (by omega) rfl hl hP hS
        clear hS hP hD hl
        intro n
        induction n with
        | zero =>
          intro i H locs ls hi hn hl hP hS
          have hie : i = 32 := by omega
          subst hie
          have hD : va_D A (mW k a (0, (zDoneN r j 32).1, zW r, (zDoneN r j 32).2, zP r, zS r, zH r, zR r, va_up (zO r) j false, zD r, zL r)) := mW_D hDk
          refine lv_iload_n hx hb d_M_done_78 rfl (lv_at hl 0 rfl) ?_
          refine lv_bipush (v := nI 32) hx hb d_M_done_79 (by decide) ?_
          refine lv_icmp_ge hx hb d_M_done_81 rfl (fun _ => ?_) (fun h9 => absurd (nI_le (Nat.le_refl 32) (by omega)) h9)
          refine lv_aload_n hx hb d_M_done_120 rfl (lv_at hl 1 rfl) ?_
          refine lv_dup hx hb d_M_done_121 rfl ?_
          refine va_get (D := (dC, dI)) (ci := 2) (v := .int (zD r)) (C := R_M) (T := F_M) (N := 11) hx hb hB in_M hown hK hP 0 rfl rfl 9 (by decide) (hB _ bw_364) (fun _ h9 => h9) rfl d_M_done_122 ?_
          refine lv_iconst (v := nI 1) hx hb d_M_done_125 (by decide) ?_
          refine lv_iadd hx hb d_M_done_126 ?_
          refine va_put (D := (dC, dI)) (ci := 2) (v := .int ((zD r) + (nI 1))) (ty := .int) (C := R_M) (T := F_M) (N := 11) hx hb hB in_M tf_M ty_M nm_M hown hK hP hD hS 0 rfl rfl 9 (by decide) (hB _ bw_364) (fun _ h9 => h9) rfl (by decide +kernel) rfl rfl (Nat.le_of_ble_eq_true rfl) d_M_done_127 (fun H locs hP hD hS => ?_)
          have hP : va_P (dC, dI) vwC (mW k a (0, (zDoneN r j 32).1, zW r, (zDoneN r j 32).2, zP r, zS r, zH r, zR r, va_up (zO r) j false, ((zD r) + (nI 1)), zL r)) H := hP
          have hD : va_D A (mW k a (0, (zDoneN r j 32).1, zW r, (zDoneN r j 32).2, zP r, zS r, zH r, zR r, va_up (zO r) j false, ((zD r) + (nI 1)), zL r)) := hD
          refine lv_iconst (v := bI true) hx hb d_M_done_130 (by decide) ?_
          exact W.zret (v := bI true) hx hb hr (bI_nar _) (fun t ht hW => ⟨⟨bI true, (0, (zDoneN r j 32).1, zW r, (zDoneN r j 32).2, zP r, zS r, zH r, zR r, va_up (zO r) j false, ((zD r) + (nI 1)), zL r), rfl, ⟨true, rfl, by unfold zDone; rw [hq]; dsimp only; rw [if_neg (by rw [ho]; decide)]; rw [if_neg (by rw [hs]; decide)]; first | done | rfl⟩, by show va_P (dC, dI) vwC _ t.heap; rw [ht]; exact hP⟩, hS.F ht⟩) hS.2.2 d_M_done_131
        | succ n ih =>
          intro i H locs ls hi hn hl hP hS
          have hlt : i < 32 := by omega
          have hD : va_D A (mW k a (0, (zDoneN r j i).1, zW r, (zDoneN r j i).2, zP r, zS r, zH r, zR r, va_up (zO r) j false, zD r, zL r)) := mW_D hDk
          refine lv_iload_n hx hb d_M_done_78 rfl (lv_at hl 0 rfl) ?_
          refine lv_bipush (v := nI 32) hx hb d_M_done_79 (by decide) ?_
          refine lv_icmp_ge hx hb d_M_done_81 rfl (fun h9 => absurd h9 (nI_ge hlt (by omega))) (fun _ => ?_)
          have hat : zAt r j i < 1280 := by unfold zAt; omega
          cases hh : zH r (zAt r j i) with
          | true =>
            have hz : zDoneN r j (i + 1) = (vp_updL (zDoneN r j i).1 i (zW r (zAt r j i)), upd (zDoneN r j i).2 i ((zDoneN r j i).2 i + 1)) := by show (if zH r (zAt r j i) = true then _ else _) = _; rw [if_pos hh]
            refine lv_aload_n hx hb d_M_done_84 rfl (lv_at hl 1 rfl) ?_
            refine va_get (D := (dC, dI)) (ci := 2) (v := .ref (a 6)) (C := R_M) (T := F_M) (N := 11) hx hb hB in_M hown hK hP 0 rfl rfl 6 (by decide) (hB _ bw_361) (fun _ h9 => h9) rfl d_M_done_85 ?_
            refine lv_aload_n hx hb d_M_done_88 rfl (lv_at hl 1 rfl) ?_
            refine lv_iload_n hx hb d_M_done_89 rfl (lv_at hl 2 rfl) ?_
            refine lv_iload_n hx hb d_M_done_90 rfl (lv_at hl 0 rfl) ?_
            refine vp_callSi (va_Run.run (va_runV (As := [.int (nI j), .int (nI i)]) (rest := [.ref (a 6)]) ⟨hx, hb, hml, hown, hB⟩ (m_M_last l dC dI k a (0, (zDoneN r j i).1, zW r, (zDoneN r j i).2, zP r, zS r, zH r, zR r, va_up (zO r) j false, zD r, zL r) j i (by omega) (by omega) hp1 hp5) (cwV 2 hB (BIG_V bw_397 bw_398 bw_11 bw_18 bw_399) rfl rfl rfl ⟨rfl, by decide, by decide, by decide +kernel⟩ ⟨Nat.le_of_ble_eq_true rfl, Nat.le_of_ble_eq_true rfl⟩) (mRc_pre _ hP hK) rfl rfl hl.1 rfl (lv_room (Nat.le_of_ble_eq_true rfl)) d_M_done_91 ⟨Nat.zero_le _, Nat.zero_le _⟩)) (fun r7 hr7 => ?_)
            refine W.eq (g2 := F0 m 94 ls [.int (nI (zAt r j i)), .ref (a 6)]) (by rw [hr7]; rfl) ?_
            refine va_zald hx hb hK hP 6 4 rfl rfl (pk_in (zAt r j i) 1280 (by omega)) d_M_done_94 ?_
            refine W.eq (g2 := F0 m 95 ls [.int (bI (zH r (zAt r j i)))]) (by rw [cl_nI (by omega)]) ?_
            refine W.eq (g2 := F0 m 95 ls [.int (bI true)]) (by rw [hh]) ?_
            refine lv_if_eq hx hb d_M_done_95 rfl (fun h9 => absurd h9 (by decide)) (fun _ => ?_)
            refine lv_aload_n hx hb d_M_done_98 rfl (lv_at hl 1 rfl) ?_
            refine lv_iload_n hx hb d_M_done_99 rfl (lv_at hl 0 rfl) ?_
            refine lv_aload_n hx hb d_M_done_100 rfl (lv_at hl 1 rfl) ?_
            refine va_get (D := (dC, dI)) (ci := 2) (v := .ref (a 2)) (C := R_M) (T := F_M) (N := 11) hx hb hB in_M hown hK hP 0 rfl rfl 2 (by decide) (hB _ bw_357) (fun _ h9 => h9) rfl d_M_done_101 ?_
            refine lv_aload_n hx hb d_M_done_104 rfl (lv_at hl 1 rfl) ?_
            refine lv_iload_n hx hb d_M_done_105 rfl (lv_at hl 2 rfl) ?_
            refine lv_iload_n hx hb d_M_done_106 rfl (lv_at hl 0 rfl) ?_
            refine vp_callSi (va_Run.run (va_runV (As := [.int (nI j), .int (nI i)]) (rest := [.ref (a 2), .int (nI i), .ref (a 0)]) ⟨hx, hb, hml, hown, hB⟩ (m_M_last l dC dI k a (0, (zDoneN r j i).1, zW r, (zDoneN r j i).2, zP r, zS r, zH r, zR r, va_up (zO r) j false, zD r, zL r) j i (by omega) (by omega) hp1 hp5) (cwV 2 hB (BIG_V bw_397 bw_398 bw_11 bw_18 bw_399) rfl rfl rfl ⟨rfl, by decide, by decide, by decide +kernel⟩ ⟨Nat.le_of_ble_eq_true rfl, Nat.le_of_ble_eq_true rfl⟩) (mRc_pre _ hP hK) rfl rfl hl.1 rfl (lv_room (Nat.le_of_ble_eq_true rfl)) d_M_done_107 ⟨Nat.zero_le _, Nat.zero_le _⟩)) (fun r7 hr7 => ?_)
            refine W.eq (g2 := F0 m 110 ls [.int (nI (zAt r j i)), .ref (a 2), .int (nI i), .ref (a 0)]) (by rw [hr7]; rfl) ?_
            refine va_lald hx hb hK hP 2 1 rfl rfl (pk_in (zAt r j i) 1280 (by omega)) d_M_done_110 ?_
            refine W.eq (g2 := F0 m 111 ls [.long (zW r (zAt r j i)), .int (nI i), .ref (a 0)]) (by rw [cl_nI (by omega)]) ?_
            have hFc := va_free (wc := mW k a (0, (zDoneN r j i).1, zW r, (zDoneN r j i).2, zP r, zS r, zH r, zR r, va_up (zO r) j false, zD r, zL r)) hD hS hA [0, 1, 2, 3, 4, 5, 6, 7, 8] rfl
            refine va_callv (va_runV (As := [.int (nI i), .long (zW r (zAt r j i))]) (rest := []) ⟨hx, hb, hml, hown, hB⟩ (m_M_change l dC dI k a _ (0, (zDoneN r j i).1, zW r, (zDoneN r j i).2, zP r, zS r, zH r, zR r, va_up (zO r) j false, zD r, zL r) i (zW r (zAt r j i)) hlt) (cwV 2 hB (BIG_V bw_434 bw_435 bw_14 bw_18 bw_436) rfl rfl rfl ⟨rfl, by decide, by decide, by decide +kernel⟩ ⟨Nat.le_of_ble_eq_true rfl, Nat.le_of_ble_eq_true rfl⟩) (mPc_pre _ hP hK hD) rfl rfl hl.1 rfl (lv_room (Nat.le_of_ble_eq_true rfl)) d_M_done_111 ⟨Nat.zero_le _, Nat.zero_le _⟩) hS (fun q _ h => hFc q h) hFc (fun u t H1 locs ht hvm hw hB1 hz1 hk1 hS => ?_)
            subst hw
            have hP : va_P (dC, dI) vwC (mW k a (zChg (0, (zDoneN r j i).1, zW r, (zDoneN r j i).2, zP r, zS r, zH r, zR r, va_up (zO r) j false, zD r, zL r) i (zW r (zAt r j i)))) H1 := by rw [← ht]; exact hB1
            have hD : va_D A (mW k a (zChg (0, (zDoneN r j i).1, zW r, (zDoneN r j i).2, zP r, zS r, zH r, zR r, va_up (zO r) j false, zD r, zL r) i (zW r (zAt r j i)))) := mW_D hDk
            clear hFc hB1 hk1 hz1 ht hvm
            generalize H1 = H at hP hS ⊢
            refine lv_iinc (k := 0) (v := nI (i + 1)) hx hb d_M_done_114 hl rfl (nI_1 i) (by decide) rfl (fun ls hl => ?_)
            have hl : lv_has ls 3 [(2, .int (nI (i + 1))), (0, .ref (a 0)), (1, .int (nI j))] := hl
            refine lv_goto hx hb d_M_done_117 rfl ?_
            exact ih (i + 1) H _ ls (by omega) (by omega) hl (by rw [hz]; exact hP) hS
          | false =>
            have hz : zDoneN r j (i + 1) = zDoneN r j i := by show (if zH r (zAt r j i) = true then _ else _) = _; rw [if_neg (by rw [hh]; decide)]
            refine lv_aload_n hx hb d_M_done_84 rfl (lv_at hl 1 rfl) ?_
            refine va_get (D := (dC, dI)) (ci := 2) (v := .ref (a 6)) (C := R_M) (T := F_M) (N := 11) hx hb hB in_M hown hK hP 0 rfl rfl 6 (by decide) (hB _ bw_361) (fun _ h9 => h9) rfl d_M_done_85 ?_
            refine lv_aload_n hx hb d_M_done_88 rfl (lv_at hl 1 rfl) ?_
            refine lv_iload_n hx hb d_M_done_89 rfl (lv_at hl 2 rfl) ?_
            refine lv_iload_n hx hb d_M_done_90 rfl (lv_at hl 0 rfl) ?_
            refine vp_callSi (va_Run.run (va_runV (As := [.int (nI j), .int (nI i)]) (rest := [.ref (a 6)]) ⟨hx, hb, hml, hown, hB⟩ (m_M_last l dC dI k a (0, (zDoneN r j i).1, zW r, (zDoneN r j i).2, zP r, zS r, zH r, zR r, va_up (zO r) j false, zD r, zL r) j i (by omega) (by omega) hp1 hp5) (cwV 2 hB (BIG_V bw_397 bw_398 bw_11 bw_18 bw_399) rfl rfl rfl ⟨rfl, by decide, by decide, by decide +kernel⟩ ⟨Nat.le_of_ble_eq_true rfl, Nat.le_of_ble_eq_true rfl⟩) (mRc_pre _ hP hK) rfl rfl hl.1 rfl (lv_room (Nat.le_of_ble_eq_true rfl)) d_M_done_91 ⟨Nat.zero_le _, Nat.zero_le _⟩)) (fun r7 hr7 => ?_)
            refine W.eq (g2 := F0 m 94 ls [.int (nI (zAt r j i)), .ref (a 6)]) (by rw [hr7]; rfl) ?_
            refine va_zald hx hb hK hP 6 4 rfl rfl (pk_in (zAt r j i) 1280 (by omega)) d_M_done_94 ?_
            refine W.eq (g2 := F0 m 95 ls [.int (bI (zH r (zAt r j i)))]) (by rw [cl_nI (by omega)]) ?_
            refine W.eq (g2 := F0 m 95 ls [.int (bI false)]) (by rw [hh]) ?_
            refine lv_if_eq hx hb d_M_done_95 rfl (fun _ => ?_) (fun h9 => absurd (by decide) h9)
            refine lv_iinc (k := 0) (v := nI (i + 1)) hx hb d_M_done_114 hl rfl (nI_1 i) (by decide) rfl (fun ls hl => ?_)
            have hl : lv_has ls 3 [(2, .int (nI (i + 1))), (0, .ref (a 0)), (1, .int (nI j))] := hl
            refine lv_goto hx hb d_M_done_117 rfl ?_
            exact ih (i + 1) H _ ls (by omega) (by omega) hl (by rw [hz]; exact hP) hS
set_option maxHeartbeats 4000000 in
set_option maxRecDepth 100000 in
theorem m_M_count (l : Launch) (dC : Nat → ClassId) (dI : Nat → Nat → Nat) (k : Nat → ClassId) (a : Nat → Nat) (sz : Nat) (r : xRS) (tt ww : Int32) (hok : mOk r) : Met l y_M_count w_M_count (rmx 2 0 0 80) (mPc dC dI k a sz r [.ref (a 0), .int tt, .int ww]) (va_Qi (fun o u => (o, u) = zCount r tt ww) (mB dC dI k a) (va_A (mW k a r) sz)) 0 0 (va_A (mW k a r) sz) := by
  refine Met.ofW (cc := c_M_count) (maxL := 5) (ret := (some .int)) (by decide) rfl ?_
  intro p e s m args below meth c s₁ B hml hv
  obtain ⟨rfl, hsz, hP, hK, hD0⟩ := hv
  have hx := B.exec
  have hb := B.bytes
  have hr := B.returns
  have hts := atoms_spec (ws := w_M_count) B.pre
  have hB : ∀ w ∈ BIG, w.before _ s = true := fun w h => hts w (List.mem_cons_of_mem _ h)
  have hown : s.vm.findClass R_M = some m.cls := findClass_of_methodNamed B.named
  have hlocks := B.notSynchronized
  have hl := lv_entry ([.ref (a 0), .int tt, .int ww]) (n := 5) (Nat.le_of_ble_eq_true rfl)
  rw [lg_entry_eq]
  generalize (lg_sl ([.ref (a 0), .int tt, .int ww]) ++ List.replicate (5 - (lg_sl ([.ref (a 0), .int tt, .int ww])).length) Slot.unset).toArray = ls at hl ⊢
  have hl : lv_has ls 5 [(0, .ref (a 0)), (1, .int tt), (2, .int ww)] := hl
  subst hsz
  have hD := hD0.self (sz := s.heap.size)
  generalize hAe : va_A (mW k a r) s.heap.size = A at hD ⊢
  have hA : ∀ q : Nat, s.heap.size ≤ q → A q := fun q h => by rw [← hAe]; exact Or.inr h
  have hS : va_S A s.heap s.heap [] := va_S.rf
  have hDk := hD
  cases hq : ix 8 tt with
  | none =>
    refine lv_aload_n hx hb d_M_count_0 rfl (lv_at hl 0 rfl) ?_
    refine lv_iconst (v := 0) hx hb d_M_count_1 (by decide) ?_
    refine va_put (D := (dC, dI)) (ci := 2) (v := .int 0) (ty := .int) (C := R_M) (T := F_M) (N := 11) hx hb hB in_M tf_M ty_M nm_M hown hK hP hD hS 0 rfl rfl 0 (by decide) (hB _ bw_355) (fun _ h9 => h9) rfl (by decide +kernel) rfl rfl (Nat.le_of_ble_eq_true rfl) d_M_count_2 (fun H locs hP hD hS => ?_)
    have hP : va_P (dC, dI) vwC (mW k a (0, zC r, zW r, zG r, zP r, zS r, zH r, zR r, zO r, zD r, zL r)) H := hP
    have hD : va_D A (mW k a (0, zC r, zW r, zG r, zP r, zS r, zH r, zR r, zO r, zD r, zL r)) := hD
    refine lv_aload_n hx hb d_M_count_5 rfl (lv_at hl 0 rfl) ?_
    refine lv_iload_n hx hb d_M_count_6 rfl (lv_at hl 1 rfl) ?_
    refine vp_callSi (va_Run.run (va_runS (As := [.int tt]) (rest := [.ref (a 0)]) ⟨hx, hb, hml, hown, hB⟩ (m_M_isOne l tt) (va_cwS 1 hB (BIG_SS bw_387 bw_388 bw_18 bw_389) rfl rfl rfl ⟨by decide, by decide, by decide +kernel⟩ ⟨Nat.le_of_ble_eq_true rfl, Nat.le_of_ble_eq_true rfl⟩) preEq rfl rfl hl.1 rfl (lv_room (Nat.le_of_ble_eq_true rfl)) d_M_count_7 ⟨Nat.zero_le _, Nat.zero_le _⟩)) (fun r7 hr7 => ?_)
    refine W.eq (g2 := F0 m 10 ls [.int (bI false), .ref (a 0)]) (by rw [hr7, hq]; rfl) ?_
    refine lv_if_eq hx hb d_M_count_10 rfl (fun _ => ?_) (fun h9 => absurd (by decide) h9)
    refine lv_iconst (v := bI true) hx hb d_M_count_25 (by decide) ?_
    refine lv_goto hx hb d_M_count_26 rfl ?_
    refine lv_iconst (v := 1) hx hb d_M_count_30 (by decide) ?_
    have hFc := va_free (wc := mW k a (0, zC r, zW r, zG r, zP r, zS r, zH r, zR r, zO r, zD r, zL r)) hD hS hA [0, 1, 2, 3, 4, 5, 6, 7, 8] rfl
    refine va_calli (va_runV (As := [.int (bI true), .int 1]) (rest := []) ⟨hx, hb, hml, hown, hB⟩ (m_M_fails_t l dC dI k a _ (0, zC r, zW r, zG r, zP r, zS r, zH r, zR r, zO r, zD r, zL r) 1 rfl (by decide)) (cwV 2 hB (BIG_V bw_394 bw_395 bw_10 bw_18 bw_396) rfl rfl rfl ⟨rfl, by decide, by decide, by decide +kernel⟩ ⟨Nat.le_of_ble_eq_true rfl, Nat.le_of_ble_eq_true rfl⟩) (mPc_pre _ hP hK hD) rfl rfl hl.1 rfl (lv_room (Nat.le_of_ble_eq_true rfl)) d_M_count_31 ⟨Nat.zero_le _, Nat.zero_le _⟩) hS (fun q _ h => hFc q h) hFc (fun r7 u t H1 locs ht hvm hw hB1 hz1 hk1 hS => ?_)
    obtain ⟨hw1, hw2⟩ := hw
    subst hw1
    subst hw2
    have hP : va_P (dC, dI) vwC (mW k a (zErr (0, zC r, zW r, zG r, zP r, zS r, zH r, zR r, zO r, zD r, zL r) 1)) H1 := by rw [← ht]; exact hB1
    have hD : va_D A (mW k a (zErr (0, zC r, zW r, zG r, zP r, zS r, zH r, zR r, zO r, zD r, zL r) 1)) := mW_D hDk
    clear hFc hB1 hk1 hz1 ht hvm
    generalize H1 = H at hP hS ⊢
    have hP : va_P (dC, dI) vwC (mW k a (1, zC r, zW r, zG r, zP r, zS r, zH r, zR r, zO r, zD r, zL r)) H := hP
    have hD : va_D A (mW k a (1, zC r, zW r, zG r, zP r, zS r, zH r, zR r, zO r, zD r, zL r)) := hD
    refine lv_if_ne hx hb d_M_count_34 rfl (fun _ => ?_) (fun h9 => absurd h9 (by decide))
    refine lv_iconst (v := 0) hx hb d_M_count_59 (by decide) ?_
    exact W.iret (v := 0) hx hb hr (fun t ht hW => ⟨⟨0, (1, zC r, zW r, zG r, zP r, zS r, zH r, zR r, zO r, zD r, zL r), rfl, by unfold zCount; rw [hq]; first | done | rfl, by show va_P (dC, dI) vwC _ t.heap; rw [ht]; exact hP⟩, hS.F ht⟩) hS.2.2 d_M_count_60
  | some j =>
    obtain ⟨hj, htj⟩ := ix_some (by decide) hq
    subst htj
    cases hy : ix 4 ww with
    | none =>
      refine lv_aload_n hx hb d_M_count_0 rfl (lv_at hl 0 rfl) ?_
      refine lv_iconst (v := 0) hx hb d_M_count_1 (by decide) ?_
      refine va_put (D := (dC, dI)) (ci := 2) (v := .int 0) (ty := .int) (C := R_M) (T := F_M) (N := 11) hx hb hB in_M tf_M ty_M nm_M hown hK hP hD hS 0 rfl rfl 0 (by decide) (hB _ bw_355) (fun _ h9 => h9) rfl (by decide +kernel) rfl rfl (Nat.le_of_ble_eq_true rfl) d_M_count_2 (fun H locs hP hD hS => ?_)
      have hP : va_P (dC, dI) vwC (mW k a (0, zC r, zW r, zG r, zP r, zS r, zH r, zR r, zO r, zD r, zL r)) H := hP
      have hD : va_D A (mW k a (0, zC r, zW r, zG r, zP r, zS r, zH r, zR r, zO r, zD r, zL r)) := hD
      refine lv_aload_n hx hb d_M_count_5 rfl (lv_at hl 0 rfl) ?_
      refine lv_iload_n hx hb d_M_count_6 rfl (lv_at hl 1 rfl) ?_
      refine vp_callSi (va_Run.run (va_runS (As := [.int (nI j)]) (rest := [.ref (a 0)]) ⟨hx, hb, hml, hown, hB⟩ (m_M_isOne l (nI j)) (va_cwS 1 hB (BIG_SS bw_387 bw_388 bw_18 bw_389) rfl rfl rfl ⟨by decide, by decide, by decide +kernel⟩ ⟨Nat.le_of_ble_eq_true rfl, Nat.le_of_ble_eq_true rfl⟩) preEq rfl rfl hl.1 rfl (lv_room (Nat.le_of_ble_eq_true rfl)) d_M_count_7 ⟨Nat.zero_le _, Nat.zero_le _⟩)) (fun r7 hr7 => ?_)
      refine W.eq (g2 := F0 m 10 ls [.int (bI true), .ref (a 0)]) (by rw [hr7, hq]; rfl) ?_
      refine lv_if_eq hx hb d_M_count_10 rfl (fun h9 => absurd h9 (by decide)) (fun _ => ?_)
      refine lv_iload_n hx hb d_M_count_13 rfl (lv_at hl 2 rfl) ?_
      refine lv_i2l hx hb d_M_count_14 rfl ?_
      refine lv_lconst (v := 0) hx hb d_M_count_15 (by decide) ?_
      refine lv_ldc2 hx hb hown (hB _ bw_457) d_M_count_16 ?_
      refine vp_callSi (va_Run.run (va_runS (As := [.long ww.toInt64, .long 0, .long 3]) (rest := [.ref (a 0)]) ⟨hx, hb, hml, hown, hB⟩ (m_M_in l ww.toInt64 0 3) (va_cwS 3 hB (BIG_SS bw_391 bw_392 bw_18 bw_393) rfl rfl rfl ⟨by decide, by decide, by decide +kernel⟩ ⟨Nat.le_of_ble_eq_true rfl, Nat.le_of_ble_eq_true rfl⟩) preEq rfl rfl hl.1 rfl (lv_room (Nat.le_of_ble_eq_true rfl)) d_M_count_19 ⟨Nat.zero_le _, Nat.zero_le _⟩)) (fun r7 hr7 => ?_)
      refine W.eq (g2 := F0 m 22 ls [.int (bI false), .ref (a 0)]) (by rw [hr7, in_ix (n := 3) (by decide), hy]; rfl) ?_
      refine lv_if_ne hx hb d_M_count_22 rfl (fun h9 => absurd h9 (by decide)) (fun _ => ?_)
      refine lv_iconst (v := bI true) hx hb d_M_count_25 (by decide) ?_
      refine lv_goto hx hb d_M_count_26 rfl ?_
      refine lv_iconst (v := 1) hx hb d_M_count_30 (by decide) ?_
      have hFc := va_free (wc := mW k a (0, zC r, zW r, zG r, zP r, zS r, zH r, zR r, zO r, zD r, zL r)) hD hS hA [0, 1, 2, 3, 4, 5, 6, 7, 8] rfl
      refine va_calli (va_runV (As := [.int (bI true), .int 1]) (rest := []) ⟨hx, hb, hml, hown, hB⟩ (m_M_fails_t l dC dI k a _ (0, zC r, zW r, zG r, zP r, zS r, zH r, zR r, zO r, zD r, zL r) 1 rfl (by decide)) (cwV 2 hB (BIG_V bw_394 bw_395 bw_10 bw_18 bw_396) rfl rfl rfl ⟨rfl, by decide, by decide, by decide +kernel⟩ ⟨Nat.le_of_ble_eq_true rfl, Nat.le_of_ble_eq_true rfl⟩) (mPc_pre _ hP hK hD) rfl rfl hl.1 rfl (lv_room (Nat.le_of_ble_eq_true rfl)) d_M_count_31 ⟨Nat.zero_le _, Nat.zero_le _⟩) hS (fun q _ h => hFc q h) hFc (fun r7 u t H1 locs ht hvm hw hB1 hz1 hk1 hS => ?_)
      obtain ⟨hw1, hw2⟩ := hw
      subst hw1
      subst hw2
      have hP : va_P (dC, dI) vwC (mW k a (zErr (0, zC r, zW r, zG r, zP r, zS r, zH r, zR r, zO r, zD r, zL r) 1)) H1 := by rw [← ht]; exact hB1
      have hD : va_D A (mW k a (zErr (0, zC r, zW r, zG r, zP r, zS r, zH r, zR r, zO r, zD r, zL r) 1)) := mW_D hDk
      clear hFc hB1 hk1 hz1 ht hvm
      generalize H1 = H at hP hS ⊢
      have hP : va_P (dC, dI) vwC (mW k a (1, zC r, zW r, zG r, zP r, zS r, zH r, zR r, zO r, zD r, zL r)) H := hP
      have hD : va_D A (mW k a (1, zC r, zW r, zG r, zP r, zS r, zH r, zR r, zO r, zD r, zL r)) := hD
      refine lv_if_ne hx hb d_M_count_34 rfl (fun _ => ?_) (fun h9 => absurd h9 (by decide))
      refine lv_iconst (v := 0) hx hb d_M_count_59 (by decide) ?_
      exact W.iret (v := 0) hx hb hr (fun t ht hW => ⟨⟨0, (1, zC r, zW r, zG r, zP r, zS r, zH r, zR r, zO r, zD r, zL r), rfl, by unfold zCount; rw [hq]; dsimp only; rw [hy]; first | done | rfl, by show va_P (dC, dI) vwC _ t.heap; rw [ht]; exact hP⟩, hS.F ht⟩) hS.2.2 d_M_count_60
    | some c8 =>
      obtain ⟨hc8, htc⟩ := ix_some (by decide) hy
      subst htc
      cases ho : zO r j with
      | false =>
        refine lv_aload_n hx hb d_M_count_0 rfl (lv_at hl 0 rfl) ?_
        refine lv_iconst (v := 0) hx hb d_M_count_1 (by decide) ?_
        refine va_put (D := (dC, dI)) (ci := 2) (v := .int 0) (ty := .int) (C := R_M) (T := F_M) (N := 11) hx hb hB in_M tf_M ty_M nm_M hown hK hP hD hS 0 rfl rfl 0 (by decide) (hB _ bw_355) (fun _ h9 => h9) rfl (by decide +kernel) rfl rfl (Nat.le_of_ble_eq_true rfl) d_M_count_2 (fun H locs hP hD hS => ?_)
        have hP : va_P (dC, dI) vwC (mW k a (0, zC r, zW r, zG r, zP r, zS r, zH r, zR r, zO r, zD r, zL r)) H := hP
        have hD : va_D A (mW k a (0, zC r, zW r, zG r, zP r, zS r, zH r, zR r, zO r, zD r, zL r)) := hD
        refine lv_aload_n hx hb d_M_count_5 rfl (lv_at hl 0 rfl) ?_
        refine lv_iload_n hx hb d_M_count_6 rfl (lv_at hl 1 rfl) ?_
        refine vp_callSi (va_Run.run (va_runS (As := [.int (nI j)]) (rest := [.ref (a 0)]) ⟨hx, hb, hml, hown, hB⟩ (m_M_isOne l (nI j)) (va_cwS 1 hB (BIG_SS bw_387 bw_388 bw_18 bw_389) rfl rfl rfl ⟨by decide, by decide, by decide +kernel⟩ ⟨Nat.le_of_ble_eq_true rfl, Nat.le_of_ble_eq_true rfl⟩) preEq rfl rfl hl.1 rfl (lv_room (Nat.le_of_ble_eq_true rfl)) d_M_count_7 ⟨Nat.zero_le _, Nat.zero_le _⟩)) (fun r7 hr7 => ?_)
        refine W.eq (g2 := F0 m 10 ls [.int (bI true), .ref (a 0)]) (by rw [hr7, hq]; rfl) ?_
        refine lv_if_eq hx hb d_M_count_10 rfl (fun h9 => absurd h9 (by decide)) (fun _ => ?_)
        refine lv_iload_n hx hb d_M_count_13 rfl (lv_at hl 2 rfl) ?_
        refine lv_i2l hx hb d_M_count_14 rfl ?_
        refine lv_lconst (v := 0) hx hb d_M_count_15 (by decide) ?_
        refine lv_ldc2 hx hb hown (hB _ bw_457) d_M_count_16 ?_
        refine vp_callSi (va_Run.run (va_runS (As := [.long ((nI c8).toInt64), .long 0, .long 3]) (rest := [.ref (a 0)]) ⟨hx, hb, hml, hown, hB⟩ (m_M_in l (nI c8).toInt64 0 3) (va_cwS 3 hB (BIG_SS bw_391 bw_392 bw_18 bw_393) rfl rfl rfl ⟨by decide, by decide, by decide +kernel⟩ ⟨Nat.le_of_ble_eq_true rfl, Nat.le_of_ble_eq_true rfl⟩) preEq rfl rfl hl.1 rfl (lv_room (Nat.le_of_ble_eq_true rfl)) d_M_count_19 ⟨Nat.zero_le _, Nat.zero_le _⟩)) (fun r7 hr7 => ?_)
        refine W.eq (g2 := F0 m 22 ls [.int (bI true), .ref (a 0)]) (by rw [hr7, in_ix (n := 3) (by decide), hy]; rfl) ?_
        refine lv_if_ne hx hb d_M_count_22 rfl (fun _ => ?_) (fun h9 => absurd h9 (by decide))
        refine lv_iconst (v := bI false) hx hb d_M_count_29 (by decide) ?_
        refine lv_iconst (v := 1) hx hb d_M_count_30 (by decide) ?_
        have hFc := va_free (wc := mW k a (0, zC r, zW r, zG r, zP r, zS r, zH r, zR r, zO r, zD r, zL r)) hD hS hA [0, 1, 2, 3, 4, 5, 6, 7, 8] rfl
        refine va_calli (va_runV (As := [.int (bI false), .int 1]) (rest := []) ⟨hx, hb, hml, hown, hB⟩ (m_M_fails_f l dC dI k a _ (0, zC r, zW r, zG r, zP r, zS r, zH r, zR r, zO r, zD r, zL r) 1 rfl) (cwV 2 hB (BIG_V bw_394 bw_395 bw_10 bw_18 bw_396) rfl rfl rfl ⟨rfl, by decide, by decide, by decide +kernel⟩ ⟨Nat.le_of_ble_eq_true rfl, Nat.le_of_ble_eq_true rfl⟩) (mPc_pre _ hP hK hD) rfl rfl hl.1 rfl (lv_room (Nat.le_of_ble_eq_true rfl)) d_M_count_31 ⟨Nat.zero_le _, Nat.zero_le _⟩) hS (fun q _ h => hFc q h) hFc (fun r7 u t H1 locs ht hvm hw hB1 hz1 hk1 hS => ?_)
        obtain ⟨hw1, hw2⟩ := hw
        subst hw1
        subst hw2
        have hP : va_P (dC, dI) vwC (mW k a (0, zC r, zW r, zG r, zP r, zS r, zH r, zR r, zO r, zD r, zL r)) H1 := by rw [← ht]; exact hB1
        have hD : va_D A (mW k a (0, zC r, zW r, zG r, zP r, zS r, zH r, zR r, zO r, zD r, zL r)) := mW_D hDk
        clear hFc hB1 hk1 hz1 ht hvm
        generalize H1 = H at hP hS ⊢
        refine lv_if_ne hx hb d_M_count_34 rfl (fun h9 => absurd h9 (by decide)) (fun _ => ?_)
        refine lv_aload_n hx hb d_M_count_37 rfl (lv_at hl 0 rfl) ?_
        refine lv_aload_n hx hb d_M_count_38 rfl (lv_at hl 0 rfl) ?_
        refine va_get (D := (dC, dI)) (ci := 2) (v := .ref (a 8)) (C := R_M) (T := F_M) (N := 11) hx hb hB in_M hown hK hP 0 rfl rfl 8 (by decide) (hB _ bw_363) (fun _ h9 => h9) rfl d_M_count_39 ?_
        refine lv_iload_n hx hb d_M_count_42 rfl (lv_at hl 1 rfl) ?_
        refine va_zald hx hb hK hP 8 4 rfl rfl (pk_in j 8 (by omega)) d_M_count_43 ?_
        refine W.eq (g2 := F0 m 44 ls [.int (bI (zO r j)), .ref (a 0)]) (by rw [cl_nI (by omega)]) ?_
        refine W.eq (g2 := F0 m 44 ls [.int (bI false), .ref (a 0)]) (by rw [ho]) ?_
        refine lv_if_ne hx hb d_M_count_44 rfl (fun h9 => absurd h9 (by decide)) (fun _ => ?_)
        refine lv_iconst (v := bI true) hx hb d_M_count_47 (by decide) ?_
        refine lv_goto hx hb d_M_count_48 rfl ?_
        refine lv_iconst (v := 2) hx hb d_M_count_52 (by decide) ?_
        have hFc := va_free (wc := mW k a (0, zC r, zW r, zG r, zP r, zS r, zH r, zR r, zO r, zD r, zL r)) hD hS hA [0, 1, 2, 3, 4, 5, 6, 7, 8] rfl
        refine va_calli (va_runV (As := [.int (bI true), .int 2]) (rest := []) ⟨hx, hb, hml, hown, hB⟩ (m_M_fails_t l dC dI k a _ (0, zC r, zW r, zG r, zP r, zS r, zH r, zR r, zO r, zD r, zL r) 2 rfl (by decide)) (cwV 2 hB (BIG_V bw_394 bw_395 bw_10 bw_18 bw_396) rfl rfl rfl ⟨rfl, by decide, by decide, by decide +kernel⟩ ⟨Nat.le_of_ble_eq_true rfl, Nat.le_of_ble_eq_true rfl⟩) (mPc_pre _ hP hK hD) rfl rfl hl.1 rfl (lv_room (Nat.le_of_ble_eq_true rfl)) d_M_count_53 ⟨Nat.zero_le _, Nat.zero_le _⟩) hS (fun q _ h => hFc q h) hFc (fun r7 u t H1 locs ht hvm hw hB1 hz1 hk1 hS => ?_)
        obtain ⟨hw1, hw2⟩ := hw
        subst hw1
        subst hw2
        have hP : va_P (dC, dI) vwC (mW k a (zErr (0, zC r, zW r, zG r, zP r, zS r, zH r, zR r, zO r, zD r, zL r) 2)) H1 := by rw [← ht]; exact hB1
        have hD : va_D A (mW k a (zErr (0, zC r, zW r, zG r, zP r, zS r, zH r, zR r, zO r, zD r, zL r) 2)) := mW_D hDk
        clear hFc hB1 hk1 hz1 ht hvm
        generalize H1 = H at hP hS ⊢
        have hP : va_P (dC, dI) vwC (mW k a (2, zC r, zW r, zG r, zP r, zS r, zH r, zR r, zO r, zD r, zL r)) H := hP
        have hD : va_D A (mW k a (2, zC r, zW r, zG r, zP r, zS r, zH r, zR r, zO r, zD r, zL r)) := hD
        refine lv_if_eq hx hb d_M_count_56 rfl (fun h9 => absurd h9 (by decide)) (fun _ => ?_)
        refine lv_iconst (v := 0) hx hb d_M_count_59 (by decide) ?_
        exact W.iret (v := 0) hx hb hr (fun t ht hW => ⟨⟨0, (2, zC r, zW r, zG r, zP r, zS r, zH r, zR r, zO r, zD r, zL r), rfl, by unfold zCount; rw [hq]; dsimp only; rw [hy]; dsimp only; rw [if_pos ho]; first | done | rfl, by show va_P (dC, dI) vwC _ t.heap; rw [ht]; exact hP⟩, hS.F ht⟩) hS.2.2 d_M_count_60
      | true =>
        obtain ⟨hp1, hp5⟩ := hok j hj ho
        refine lv_aload_n hx hb d_M_count_0 rfl (lv_at hl 0 rfl) ?_
        refine lv_iconst (v := 0) hx hb d_M_count_1 (by decide) ?_
        refine va_put (D := (dC, dI)) (ci := 2) (v := .int 0) (ty := .int) (C := R_M) (T := F_M) (N := 11) hx hb hB in_M tf_M ty_M nm_M hown hK hP hD hS 0 rfl rfl 0 (by decide) (hB _ bw_355) (fun _ h9 => h9) rfl (by decide +kernel) rfl rfl (Nat.le_of_ble_eq_true rfl) d_M_count_2 (fun H locs hP hD hS => ?_)
        have hP : va_P (dC, dI) vwC (mW k a (0, zC r, zW r, zG r, zP r, zS r, zH r, zR r, zO r, zD r, zL r)) H := hP
        have hD : va_D A (mW k a (0, zC r, zW r, zG r, zP r, zS r, zH r, zR r, zO r, zD r, zL r)) := hD
        refine lv_aload_n hx hb d_M_count_5 rfl (lv_at hl 0 rfl) ?_
        refine lv_iload_n hx hb d_M_count_6 rfl (lv_at hl 1 rfl) ?_
        refine vp_callSi (va_Run.run (va_runS (As := [.int (nI j)]) (rest := [.ref (a 0)]) ⟨hx, hb, hml, hown, hB⟩ (m_M_isOne l (nI j)) (va_cwS 1 hB (BIG_SS bw_387 bw_388 bw_18 bw_389) rfl rfl rfl ⟨by decide, by decide, by decide +kernel⟩ ⟨Nat.le_of_ble_eq_true rfl, Nat.le_of_ble_eq_true rfl⟩) preEq rfl rfl hl.1 rfl (lv_room (Nat.le_of_ble_eq_true rfl)) d_M_count_7 ⟨Nat.zero_le _, Nat.zero_le _⟩)) (fun r7 hr7 => ?_)
        refine W.eq (g2 := F0 m 10 ls [.int (bI true), .ref (a 0)]) (by rw [hr7, hq]; rfl) ?_
        refine lv_if_eq hx hb d_M_count_10 rfl (fun h9 => absurd h9 (by decide)) (fun _ => ?_)
        refine lv_iload_n hx hb d_M_count_13 rfl (lv_at hl 2 rfl) ?_
        refine lv_i2l hx hb d_M_count_14 rfl ?_
        refine lv_lconst (v := 0) hx hb d_M_count_15 (by decide) ?_
        refine lv_ldc2 hx hb hown (hB _ bw_457) d_M_count_16 ?_
        refine vp_callSi (va_Run.run (va_runS (As := [.long ((nI c8).toInt64), .long 0, .long 3]) (rest := [.ref (a 0)]) ⟨hx, hb, hml, hown, hB⟩ (m_M_in l (nI c8).toInt64 0 3) (va_cwS 3 hB (BIG_SS bw_391 bw_392 bw_18 bw_393) rfl rfl rfl ⟨by decide, by decide, by decide +kernel⟩ ⟨Nat.le_of_ble_eq_true rfl, Nat.le_of_ble_eq_true rfl⟩) preEq rfl rfl hl.1 rfl (lv_room (Nat.le_of_ble_eq_true rfl)) d_M_count_19 ⟨Nat.zero_le _, Nat.zero_le _⟩)) (fun r7 hr7 => ?_)
        refine W.eq (g2 := F0 m 22 ls [.int (bI true), .ref (a 0)]) (by rw [hr7, in_ix (n := 3) (by decide), hy]; rfl) ?_
        refine lv_if_ne hx hb d_M_count_22 rfl (fun _ => ?_) (fun h9 => absurd h9 (by decide))
        refine lv_iconst (v := bI false) hx hb d_M_count_29 (by decide) ?_
        refine lv_iconst (v := 1) hx hb d_M_count_30 (by decide) ?_
        have hFc := va_free (wc := mW k a (0, zC r, zW r, zG r, zP r, zS r, zH r, zR r, zO r, zD r, zL r)) hD hS hA [0, 1, 2, 3, 4, 5, 6, 7, 8] rfl
        refine va_calli (va_runV (As := [.int (bI false), .int 1]) (rest := []) ⟨hx, hb, hml, hown, hB⟩ (m_M_fails_f l dC dI k a _ (0, zC r, zW r, zG r, zP r, zS r, zH r, zR r, zO r, zD r, zL r) 1 rfl) (cwV 2 hB (BIG_V bw_394 bw_395 bw_10 bw_18 bw_396) rfl rfl rfl ⟨rfl, by decide, by decide, by decide +kernel⟩ ⟨Nat.le_of_ble_eq_true rfl, Nat.le_of_ble_eq_true rfl⟩) (mPc_pre _ hP hK hD) rfl rfl hl.1 rfl (lv_room (Nat.le_of_ble_eq_true rfl)) d_M_count_31 ⟨Nat.zero_le _, Nat.zero_le _⟩) hS (fun q _ h => hFc q h) hFc (fun r7 u t H1 locs ht hvm hw hB1 hz1 hk1 hS => ?_)
        obtain ⟨hw1, hw2⟩ := hw
        subst hw1
        subst hw2
        have hP : va_P (dC, dI) vwC (mW k a (0, zC r, zW r, zG r, zP r, zS r, zH r, zR r, zO r, zD r, zL r)) H1 := by rw [← ht]; exact hB1
        have hD : va_D A (mW k a (0, zC r, zW r, zG r, zP r, zS r, zH r, zR r, zO r, zD r, zL r)) := mW_D hDk
        clear hFc hB1 hk1 hz1 ht hvm
        generalize H1 = H at hP hS ⊢
        refine lv_if_ne hx hb d_M_count_34 rfl (fun h9 => absurd h9 (by decide)) (fun _ => ?_)
        refine lv_aload_n hx hb d_M_count_37 rfl (lv_at hl 0 rfl) ?_
        refine lv_aload_n hx hb d_M_count_38 rfl (lv_at hl 0 rfl) ?_
        refine va_get (D := (dC, dI)) (ci := 2) (v := .ref (a 8)) (C := R_M) (T := F_M) (N := 11) hx hb hB in_M hown hK hP 0 rfl rfl 8 (by decide) (hB _ bw_363) (fun _ h9 => h9) rfl d_M_count_39 ?_
        refine lv_iload_n hx hb d_M_count_42 rfl (lv_at hl 1 rfl) ?_
        refine va_zald hx hb hK hP 8 4 rfl rfl (pk_in j 8 (by omega)) d_M_count_43 ?_
        refine W.eq (g2 := F0 m 44 ls [.int (bI (zO r j)), .ref (a 0)]) (by rw [cl_nI (by omega)]) ?_
        refine W.eq (g2 := F0 m 44 ls [.int (bI true), .ref (a 0)]) (by rw [ho]) ?_
        refine lv_if_ne hx hb d_M_count_44 rfl (fun _ => ?_) (fun h9 => absurd h9 (by decide))
        refine lv_iconst (v := bI false) hx hb d_M_count_51 (by decide) ?_
        refine lv_iconst (v := 2) hx hb d_M_count_52 (by decide) ?_
        have hFc := va_free (wc := mW k a (0, zC r, zW r, zG r, zP r, zS r, zH r, zR r, zO r, zD r, zL r)) hD hS hA [0, 1, 2, 3, 4, 5, 6, 7, 8] rfl
        refine va_calli (va_runV (As := [.int (bI false), .int 2]) (rest := []) ⟨hx, hb, hml, hown, hB⟩ (m_M_fails_f l dC dI k a _ (0, zC r, zW r, zG r, zP r, zS r, zH r, zR r, zO r, zD r, zL r) 2 rfl) (cwV 2 hB (BIG_V bw_394 bw_395 bw_10 bw_18 bw_396) rfl rfl rfl ⟨rfl, by decide, by decide, by decide +kernel⟩ ⟨Nat.le_of_ble_eq_true rfl, Nat.le_of_ble_eq_true rfl⟩) (mPc_pre _ hP hK hD) rfl rfl hl.1 rfl (lv_room (Nat.le_of_ble_eq_true rfl)) d_M_count_53 ⟨Nat.zero_le _, Nat.zero_le _⟩) hS (fun q _ h => hFc q h) hFc (fun r7 u t H1 locs ht hvm hw hB1 hz1 hk1 hS => ?_)
        obtain ⟨hw1, hw2⟩ := hw
        subst hw1
        subst hw2
        have hP : va_P (dC, dI) vwC (mW k a (0, zC r, zW r, zG r, zP r, zS r, zH r, zR r, zO r, zD r, zL r)) H1 := by rw [← ht]; exact hB1
        have hD : va_D A (mW k a (0, zC r, zW r, zG r, zP r, zS r, zH r, zR r, zO r, zD r, zL r)) := mW_D hDk
        clear hFc hB1 hk1 hz1 ht hvm
        generalize H1 = H at hP hS ⊢
        refine lv_if_eq hx hb d_M_count_56 rfl (fun _ => ?_) (fun h9 => absurd (by decide) h9)
        refine lv_iconst (v := nI 0) hx hb d_M_count_61 (by decide) ?_
        refine lv_istore_n hx hb d_M_count_62 rfl hl (by decide) rfl (fun ls hl => ?_)
        have hl : lv_has ls 5 [(3, .int (nI 0)), (0, .ref (a 0)), (1, .int (nI j)), (2, .int (nI c8))] := hl
        refine lv_iconst (v := nI 0) hx hb d_M_count_63 (by decide) ?_
        refine lv_istore hx hb d_M_count_64 hl (by decide) rfl (fun ls hl => ?_)
        have hl : lv_has ls 5 [(4, .int (nI 0)), (3, .int (nI 0)), (0, .ref (a 0)), (1, .int (nI j)), (2, .int (nI c8))] := hl
        have h4 : c8 = 0 ∨ c8 = 1 ∨ c8 = 2 ∨ c8 = 3 := by omega
        rcases h4 with h4 | h4 | h4 | h4
        · subst h4
          suffices key : ∀ n i (H : Heap) (locs : List Loc) (ls : Array Slot), i ≤ 32 → 32 - i = n → lv_has ls 5 [(4, .int (nI i)), (3, .int (nI (zCntR r j i))), (0, .ref (a 0)), (1, .int (nI j)), (2, .int (nI 0))] → va_P (dC, dI) vwC (mW k a (0, zC r, zW r, zG r, zP r, zS r, zH r, zR r, zO r, zD r, zL r)) H → va_S A s.heap H locs → W p l e _ s m _ below meth c H locs 0 0 (MQ below (va_Qi (fun o u => (o, u) = zCount r (nI j) (nI 0)) (mB dC dI k a) A) _ s 0 0 A) (F0 m 66 ls []) from key _ 0 _ _ ls (by omega) rfl hl hP hS
          clear hS hP hD hl
          intro n
          induction n with
          | zero =>
            intro i H locs ls hi hn hl hP hS
            have hie : i = 32 := by omega
            subst hie
            have hD : va_D A (mW k a (0, zC r, zW r, zG r, zP r, zS r, zH r, zR r, zO r, zD r, zL r)) := mW_D hDk
            refine lv_iload hx hb d_M_count_66 (lv_at hl 0 rfl) ?_
            refine lv_bipush (v := nI 32) hx hb d_M_count_68 (by decide) ?_
            refine lv_icmp_ge hx hb d_M_count_70 rfl (fun _ => ?_) (fun h9 => absurd (nI_le (Nat.le_refl 32) (by omega)) h9)
            refine lv_iload_n hx hb d_M_count_124 rfl (lv_at hl 4 rfl) ?_
            refine lv_iconst (v := nI 2) hx hb d_M_count_125 (by decide) ?_
            refine lv_icmp_ge hx hb d_M_count_126 rfl (fun h9 => absurd h9 (by decide)) (fun _ => ?_)
            refine lv_iload_n hx hb d_M_count_129 rfl (lv_at hl 1 rfl) ?_
            refine lv_goto hx hb d_M_count_130 rfl ?_
            exact W.iret (v := nI (zCntR r j 32)) hx hb hr (fun t ht hW => ⟨⟨nI (zCntR r j 32), (0, zC r, zW r, zG r, zP r, zS r, zH r, zR r, zO r, zD r, zL r), rfl, by unfold zCount; rw [hq]; dsimp only; rw [hy]; dsimp only; rw [if_neg (by rw [ho]; decide)]; first | done | rfl, by show va_P (dC, dI) vwC _ t.heap; rw [ht]; exact hP⟩, hS.F ht⟩) hS.2.2 d_M_count_160
          | succ n ih =>
            intro i H locs ls hi hn hl hP hS
            have hlt : i < 32 := by omega
            have hD : va_D A (mW k a (0, zC r, zW r, zG r, zP r, zS r, zH r, zR r, zO r, zD r, zL r)) := mW_D hDk
            refine lv_iload hx hb d_M_count_66 (lv_at hl 0 rfl) ?_
            refine lv_bipush (v := nI 32) hx hb d_M_count_68 (by decide) ?_
            refine lv_icmp_ge hx hb d_M_count_70 rfl (fun h9 => absurd h9 (nI_ge hlt (by omega))) (fun _ => ?_)
            cases hh : zR r (32 * j + i) with
            | true =>
              have hz : zCntR r j (i + 1) = zCntR r j i + 1 := by show zCntR r j i + (if zR r (32 * j + i) = true then 1 else 0) = _; rw [if_pos hh]
              refine lv_iload_n hx hb d_M_count_73 rfl (lv_at hl 4 rfl) ?_
              refine lv_if_ne hx hb d_M_count_74 rfl (fun h9 => absurd h9 (fun q => q rfl)) (fun _ => ?_)
              refine lv_aload_n hx hb d_M_count_77 rfl (lv_at hl 2 rfl) ?_
              refine va_get (D := (dC, dI)) (ci := 2) (v := .ref (a 7)) (C := R_M) (T := F_M) (N := 11) hx hb hB in_M hown hK hP 0 rfl rfl 7 (by decide) (hB _ bw_362) (fun _ h9 => h9) rfl d_M_count_78 ?_
              refine lv_bipush (v := nI 32) hx hb d_M_count_81 (by decide) ?_
              refine lv_iload_n hx hb d_M_count_83 rfl (lv_at hl 3 rfl) ?_
              refine lv_imul hx hb d_M_count_84 ?_
              refine W.eq (g2 := F0 m 85 ls [.int (nI (32 * j)), .ref (a 7)]) (by rw [pk_mul]) ?_
              refine lv_iload hx hb d_M_count_85 (lv_at hl 0 rfl) ?_
              refine lv_iadd hx hb d_M_count_87 ?_
              refine W.eq (g2 := F0 m 88 ls [.int (nI ((32 * j) + i)), .ref (a 7)]) (by rw [nI_add]) ?_
              refine va_zald hx hb hK hP 7 4 rfl rfl (pk_in ((32 * j) + i) 256 (by omega)) d_M_count_88 ?_
              refine W.eq (g2 := F0 m 89 ls [.int (bI (zR r ((32 * j) + i)))]) (by rw [cl_nI (by omega)]) ?_
              refine W.eq (g2 := F0 m 89 ls [.int (bI true)]) (by rw [hh]) ?_
              refine lv_if_eq hx hb d_M_count_89 rfl (fun h9 => absurd h9 (by decide)) (fun _ => ?_)
              refine lv_goto hx hb d_M_count_92 rfl ?_
              refine lv_iinc (k := 1) (v := nI (zCntR r j i + 1)) hx hb d_M_count_115 hl rfl (nI_1 _) (by decide) rfl (fun ls hl => ?_)
              have hl : lv_has ls 5 [(3, .int (nI (zCntR r j i + 1))), (4, .int (nI i)), (0, .ref (a 0)), (1, .int (nI j)), (2, .int (nI 0))] := hl
              refine lv_iinc (k := 1) (v := nI (i + 1)) hx hb d_M_count_118 hl rfl (nI_1 i) (by decide) rfl (fun ls hl => ?_)
              have hl : lv_has ls 5 [(4, .int (nI (i + 1))), (3, .int (nI (zCntR r j i + 1))), (0, .ref (a 0)), (1, .int (nI j)), (2, .int (nI 0))] := hl
              refine lv_goto hx hb d_M_count_121 rfl ?_
              exact ih (i + 1) H _ ls (by omega) (by omega) (by rw [hz]; exact hl) hP hS
            | false =>
              have hz : zCntR r j (i + 1) = zCntR r j i + 0 := by show zCntR r j i + (if zR r (32 * j + i) = true then 1 else 0) = _; rw [if_neg (by rw [hh]; decide)]
              refine lv_iload_n hx hb d_M_count_73 rfl (lv_at hl 4 rfl) ?_
              refine lv_if_ne hx hb d_M_count_74 rfl (fun h9 => absurd h9 (fun q => q rfl)) (fun _ => ?_)
              refine lv_aload_n hx hb d_M_count_77 rfl (lv_at hl 2 rfl) ?_
              refine va_get (D := (dC, dI)) (ci := 2) (v := .ref (a 7)) (C := R_M) (T := F_M) (N := 11) hx hb hB in_M hown hK hP 0 rfl rfl 7 (by decide) (hB _ bw_362) (fun _ h9 => h9) rfl d_M_count_78 ?_
              refine lv_bipush (v := nI 32) hx hb d_M_count_81 (by decide) ?_
              refine lv_iload_n hx hb d_M_count_83 rfl (lv_at hl 3 rfl) ?_
              refine lv_imul hx hb d_M_count_84 ?_
              refine W.eq (g2 := F0 m 85 ls [.int (nI (32 * j)), .ref (a 7)]) (by rw [pk_mul]) ?_
              refine lv_iload hx hb d_M_count_85 (lv_at hl 0 rfl) ?_
              refine lv_iadd hx hb d_M_count_87 ?_
              refine W.eq (g2 := F0 m 88 ls [.int (nI ((32 * j) + i)), .ref (a 7)]) (by rw [nI_add]) ?_
              refine va_zald hx hb hK hP 7 4 rfl rfl (pk_in ((32 * j) + i) 256 (by omega)) d_M_count_88 ?_
              refine W.eq (g2 := F0 m 89 ls [.int (bI (zR r ((32 * j) + i)))]) (by rw [cl_nI (by omega)]) ?_
              refine W.eq (g2 := F0 m 89 ls [.int (bI false)]) (by rw [hh]) ?_
              refine lv_if_eq hx hb d_M_count_89 rfl (fun _ => ?_) (fun h9 => absurd (by decide) h9)
              refine lv_iinc (k := 0) (v := nI (i + 1)) hx hb d_M_count_118 hl rfl (nI_1 i) (by decide) rfl (fun ls hl => ?_)
              have hl : lv_has ls 5 [(4, .int (nI (i + 1))), (3, .int (nI (zCntR r j i))), (0, .ref (a 0)), (1, .int (nI j)), (2, .int (nI 0))] := hl
              refine lv_goto hx hb d_M_count_121 rfl ?_
              exact ih (i + 1) H _ ls (by omega) (by omega) (by rw [hz]; exact hl) hP hS
        · subst h4
          suffices key : ∀ n i (H : Heap) (locs : List Loc) (ls : Array Slot), i ≤ 32 → 32 - i = n → lv_has ls 5 [(4, .int (nI i)), (3, .int (nI (zCntH r j i))), (0, .ref (a 0)), (1, .int (nI j)), (2, .int (nI 1))] → va_P (dC, dI) vwC (mW k a (0, zC r, zW r, zG r, zP r, zS r, zH r, zR r, zO r, zD r, zL r)) H → va_S A s.heap H locs → W p l e _ s m _ below meth c H locs 0 0 (MQ below (va_Qi (fun o u => (o, u) = zCount r (nI j) (nI 1)) (mB dC dI k a) A) _ s 0 0 A) (F0 m 66 ls []) from key _ 0 _ _ ls (by omega) rfl hl hP hS
          clear hS hP hD hl
          intro n
          induction n with
          | zero =>
            intro i H locs ls hi hn hl hP hS
            have hie : i = 32 := by omega
            subst hie
            have hD : va_D A (mW k a (0, zC r, zW r, zG r, zP r, zS r, zH r, zR r, zO r, zD r, zL r)) := mW_D hDk
            refine lv_iload hx hb d_M_count_66 (lv_at hl 0 rfl) ?_
            refine lv_bipush (v := nI 32) hx hb d_M_count_68 (by decide) ?_
            refine lv_icmp_ge hx hb d_M_count_70 rfl (fun _ => ?_) (fun h9 => absurd (nI_le (Nat.le_refl 32) (by omega)) h9)
            refine lv_iload_n hx hb d_M_count_124 rfl (lv_at hl 4 rfl) ?_
            refine lv_iconst (v := nI 2) hx hb d_M_count_125 (by decide) ?_
            refine lv_icmp_ge hx hb d_M_count_126 rfl (fun h9 => absurd h9 (by decide)) (fun _ => ?_)
            refine lv_iload_n hx hb d_M_count_129 rfl (lv_at hl 1 rfl) ?_
            refine lv_goto hx hb d_M_count_130 rfl ?_
            exact W.iret (v := nI (zCntH r j 32)) hx hb hr (fun t ht hW => ⟨⟨nI (zCntH r j 32), (0, zC r, zW r, zG r, zP r, zS r, zH r, zR r, zO r, zD r, zL r), rfl, by unfold zCount; rw [hq]; dsimp only; rw [hy]; dsimp only; rw [if_neg (by rw [ho]; decide)]; first | done | rfl, by show va_P (dC, dI) vwC _ t.heap; rw [ht]; exact hP⟩, hS.F ht⟩) hS.2.2 d_M_count_160
          | succ n ih =>
            intro i H locs ls hi hn hl hP hS
            have hlt : i < 32 := by omega
            have hD : va_D A (mW k a (0, zC r, zW r, zG r, zP r, zS r, zH r, zR r, zO r, zD r, zL r)) := mW_D hDk
            refine lv_iload hx hb d_M_count_66 (lv_at hl 0 rfl) ?_
            refine lv_bipush (v := nI 32) hx hb d_M_count_68 (by decide) ?_
            refine lv_icmp_ge hx hb d_M_count_70 rfl (fun h9 => absurd h9 (nI_ge hlt (by omega))) (fun _ => ?_)
            refine lv_iload_n hx hb d_M_count_73 rfl (lv_at hl 4 rfl) ?_
            refine lv_if_ne hx hb d_M_count_74 rfl (fun _ => ?_) (fun h9 => absurd h9 (by decide))
            refine lv_iload_n hx hb d_M_count_95 rfl (lv_at hl 4 rfl) ?_
            refine lv_iconst (v := nI 1) hx hb d_M_count_96 (by decide) ?_
            refine lv_icmp_ne hx hb d_M_count_97 rfl (fun h9 => absurd h9 (fun q => q rfl)) (fun _ => ?_)
            have hat : zAt r j i < 1280 := by unfold zAt; omega
            cases hh : zH r (zAt r j i) with
            | true =>
              have hz : zCntH r j (i + 1) = zCntH r j i + 1 := by show zCntH r j i + (if zH r (zAt r j i) = true then 1 else 0) = _; rw [if_pos hh]
              refine lv_aload_n hx hb d_M_count_100 rfl (lv_at hl 2 rfl) ?_
              refine va_get (D := (dC, dI)) (ci := 2) (v := .ref (a 6)) (C := R_M) (T := F_M) (N := 11) hx hb hB in_M hown hK hP 0 rfl rfl 6 (by decide) (hB _ bw_361) (fun _ h9 => h9) rfl d_M_count_101 ?_
              refine lv_aload_n hx hb d_M_count_104 rfl (lv_at hl 2 rfl) ?_
              refine lv_iload_n hx hb d_M_count_105 rfl (lv_at hl 3 rfl) ?_
              refine lv_iload hx hb d_M_count_106 (lv_at hl 0 rfl) ?_
              refine vp_callSi (va_Run.run (va_runV (As := [.int (nI j), .int (nI i)]) (rest := [.ref (a 6)]) ⟨hx, hb, hml, hown, hB⟩ (m_M_last l dC dI k a (0, zC r, zW r, zG r, zP r, zS r, zH r, zR r, zO r, zD r, zL r) j i (by omega) (by omega) hp1 hp5) (cwV 2 hB (BIG_V bw_397 bw_398 bw_11 bw_18 bw_399) rfl rfl rfl ⟨rfl, by decide, by decide, by decide +kernel⟩ ⟨Nat.le_of_ble_eq_true rfl, Nat.le_of_ble_eq_true rfl⟩) (mRc_pre _ hP hK) rfl rfl hl.1 rfl (lv_room (Nat.le_of_ble_eq_true rfl)) d_M_count_108 ⟨Nat.zero_le _, Nat.zero_le _⟩)) (fun r7 hr7 => ?_)
              refine W.eq (g2 := F0 m 111 ls [.int (nI (zAt r j i)), .ref (a 6)]) (by rw [hr7]; rfl) ?_
              refine va_zald hx hb hK hP 6 4 rfl rfl (pk_in (zAt r j i) 1280 (by omega)) d_M_count_111 ?_
              refine W.eq (g2 := F0 m 112 ls [.int (bI (zH r (zAt r j i)))]) (by rw [cl_nI (by omega)]) ?_
              refine W.eq (g2 := F0 m 112 ls [.int (bI true)]) (by rw [hh]) ?_
              refine lv_if_eq hx hb d_M_count_112 rfl (fun h9 => absurd h9 (by decide)) (fun _ => ?_)
              refine lv_iinc (k := 1) (v := nI (zCntH r j i + 1)) hx hb d_M_count_115 hl rfl (nI_1 _) (by decide) rfl (fun ls hl => ?_)
              have hl : lv_has ls 5 [(3, .int (nI (zCntH r j i + 1))), (4, .int (nI i)), (0, .ref (a 0)), (1, .int (nI j)), (2, .int (nI 1))] := hl
              refine lv_iinc (k := 1) (v := nI (i + 1)) hx hb d_M_count_118 hl rfl (nI_1 i) (by decide) rfl (fun ls hl => ?_)
              have hl : lv_has ls 5 [(4, .int (nI (i + 1))), (3, .int (nI (zCntH r j i + 1))), (0, .ref (a 0)), (1, .int (nI j)), (2, .int (nI 1))] := hl
              refine lv_goto hx hb d_M_count_121 rfl ?_
              exact ih (i + 1) H _ ls (by omega) (by omega) (by rw [hz]; exact hl) hP hS
            | false =>
              have hz : zCntH r j (i + 1) = zCntH r j i + 0 := by show zCntH r j i + (if zH r (zAt r j i) = true then 1 else 0) = _; rw [if_neg (by rw [hh]; decide)]
              refine lv_aload_n hx hb d_M_count_100 rfl (lv_at hl 2 rfl) ?_
              refine va_get (D := (dC, dI)) (ci := 2) (v := .ref (a 6)) (C := R_M) (T := F_M) (N := 11) hx hb hB in_M hown hK hP 0 rfl rfl 6 (by decide) (hB _ bw_361) (fun _ h9 => h9) rfl d_M_count_101 ?_
              refine lv_aload_n hx hb d_M_count_104 rfl (lv_at hl 2 rfl) ?_
              refine lv_iload_n hx hb d_M_count_105 rfl (lv_at hl 3 rfl) ?_
              refine lv_iload hx hb d_M_count_106 (lv_at hl 0 rfl) ?_
              refine vp_callSi (va_Run.run (va_runV (As := [.int (nI j), .int (nI i)]) (rest := [.ref (a 6)]) ⟨hx, hb, hml, hown, hB⟩ (m_M_last l dC dI k a (0, zC r, zW r, zG r, zP r, zS r, zH r, zR r, zO r, zD r, zL r) j i (by omega) (by omega) hp1 hp5) (cwV 2 hB (BIG_V bw_397 bw_398 bw_11 bw_18 bw_399) rfl rfl rfl ⟨rfl, by decide, by decide, by decide +kernel⟩ ⟨Nat.le_of_ble_eq_true rfl, Nat.le_of_ble_eq_true rfl⟩) (mRc_pre _ hP hK) rfl rfl hl.1 rfl (lv_room (Nat.le_of_ble_eq_true rfl)) d_M_count_108 ⟨Nat.zero_le _, Nat.zero_le _⟩)) (fun r7 hr7 => ?_)
              refine W.eq (g2 := F0 m 111 ls [.int (nI (zAt r j i)), .ref (a 6)]) (by rw [hr7]; rfl) ?_
              refine va_zald hx hb hK hP 6 4 rfl rfl (pk_in (zAt r j i) 1280 (by omega)) d_M_count_111 ?_
              refine W.eq (g2 := F0 m 112 ls [.int (bI (zH r (zAt r j i)))]) (by rw [cl_nI (by omega)]) ?_
              refine W.eq (g2 := F0 m 112 ls [.int (bI false)]) (by rw [hh]) ?_
              refine lv_if_eq hx hb d_M_count_112 rfl (fun _ => ?_) (fun h9 => absurd (by decide) h9)
              refine lv_iinc (k := 0) (v := nI (i + 1)) hx hb d_M_count_118 hl rfl (nI_1 i) (by decide) rfl (fun ls hl => ?_)
              have hl : lv_has ls 5 [(4, .int (nI (i + 1))), (3, .int (nI (zCntH r j i))), (0, .ref (a 0)), (1, .int (nI j)), (2, .int (nI 1))] := hl
              refine lv_goto hx hb d_M_count_121 rfl ?_
              exact ih (i + 1) H _ ls (by omega) (by omega) (by rw [hz]; exact hl) hP hS
        · subst h4
          suffices key : ∀ n i (H : Heap) (locs : List Loc) (ls : Array Slot), i ≤ 32 → 32 - i = n → lv_has ls 5 [(4, .int (nI i)), (3, .int (nI 0)), (0, .ref (a 0)), (1, .int (nI j)), (2, .int (nI 2))] → va_P (dC, dI) vwC (mW k a (0, zC r, zW r, zG r, zP r, zS r, zH r, zR r, zO r, zD r, zL r)) H → va_S A s.heap H locs → W p l e _ s m _ below meth c H locs 0 0 (MQ below (va_Qi (fun o u => (o, u) = zCount r (nI j) (nI 2)) (mB dC dI k a) A) _ s 0 0 A) (F0 m 66 ls []) from key _ 0 _ _ ls (by omega) rfl hl hP hS
          clear hS hP hD hl
          intro n
          induction n with
          | zero =>
            intro i H locs ls hi hn hl hP hS
            have hie : i = 32 := by omega
            subst hie
            have hD : va_D A (mW k a (0, zC r, zW r, zG r, zP r, zS r, zH r, zR r, zO r, zD r, zL r)) := mW_D hDk
            refine lv_iload hx hb d_M_count_66 (lv_at hl 0 rfl) ?_
            refine lv_bipush (v := nI 32) hx hb d_M_count_68 (by decide) ?_
            refine lv_icmp_ge hx hb d_M_count_70 rfl (fun _ => ?_) (fun h9 => absurd (nI_le (Nat.le_refl 32) (by omega)) h9)
            refine lv_iload_n hx hb d_M_count_124 rfl (lv_at hl 4 rfl) ?_
            refine lv_iconst (v := nI 2) hx hb d_M_count_125 (by decide) ?_
            refine lv_icmp_ge hx hb d_M_count_126 rfl (fun _ => ?_) (fun h9 => absurd (by decide) h9)
            refine lv_iload_n hx hb d_M_count_133 rfl (lv_at hl 4 rfl) ?_
            refine lv_iconst (v := nI 2) hx hb d_M_count_134 (by decide) ?_
            refine lv_icmp_ne hx hb d_M_count_135 rfl (fun h9 => absurd h9 (by decide)) (fun _ => ?_)
            refine lv_aload_n hx hb d_M_count_138 rfl (lv_at hl 2 rfl) ?_
            refine va_get (D := (dC, dI)) (ci := 2) (v := .ref (a 4)) (C := R_M) (T := F_M) (N := 11) hx hb hB in_M hown hK hP 0 rfl rfl 4 (by decide) (hB _ bw_359) (fun _ h9 => h9) rfl d_M_count_139 ?_
            refine lv_iload_n hx hb d_M_count_142 rfl (lv_at hl 3 rfl) ?_
            refine va_iald hx hb hK hP 4 0 rfl rfl (pk_in j 8 (by omega)) d_M_count_143 ?_
            refine W.eq (g2 := F0 m 144 ls [.int (nI (zP r j))]) (by rw [cl_nI (by omega)]) ?_
            refine lv_goto hx hb d_M_count_144 rfl ?_
            exact W.iret (v := nI (zP r j)) hx hb hr (fun t ht hW => ⟨⟨nI (zP r j), (0, zC r, zW r, zG r, zP r, zS r, zH r, zR r, zO r, zD r, zL r), rfl, by unfold zCount; rw [hq]; dsimp only; rw [hy]; dsimp only; rw [if_neg (by rw [ho]; decide)]; first | done | rfl, by show va_P (dC, dI) vwC _ t.heap; rw [ht]; exact hP⟩, hS.F ht⟩) hS.2.2 d_M_count_160
          | succ n ih =>
            intro i H locs ls hi hn hl hP hS
            have hlt : i < 32 := by omega
            have hD : va_D A (mW k a (0, zC r, zW r, zG r, zP r, zS r, zH r, zR r, zO r, zD r, zL r)) := mW_D hDk
            refine lv_iload hx hb d_M_count_66 (lv_at hl 0 rfl) ?_
            refine lv_bipush (v := nI 32) hx hb d_M_count_68 (by decide) ?_
            refine lv_icmp_ge hx hb d_M_count_70 rfl (fun h9 => absurd h9 (nI_ge hlt (by omega))) (fun _ => ?_)
            refine lv_iload_n hx hb d_M_count_73 rfl (lv_at hl 4 rfl) ?_
            refine lv_if_ne hx hb d_M_count_74 rfl (fun _ => ?_) (fun h9 => absurd h9 (by decide))
            refine lv_iload_n hx hb d_M_count_95 rfl (lv_at hl 4 rfl) ?_
            refine lv_iconst (v := nI 1) hx hb d_M_count_96 (by decide) ?_
            refine lv_icmp_ne hx hb d_M_count_97 rfl (fun _ => ?_) (fun h9 => absurd h9 (by decide))
            refine lv_iinc (k := 0) (v := nI (i + 1)) hx hb d_M_count_118 hl rfl (nI_1 i) (by decide) rfl (fun ls hl => ?_)
            have hl : lv_has ls 5 [(4, .int (nI (i + 1))), (3, .int (nI 0)), (0, .ref (a 0)), (1, .int (nI j)), (2, .int (nI 2))] := hl
            refine lv_goto hx hb d_M_count_121 rfl ?_
            exact ih (i + 1) H _ ls (by omega) (by omega) (by exact hl) hP hS
        · subst h4
          suffices key : ∀ n i (H : Heap) (locs : List Loc) (ls : Array Slot), i ≤ 32 → 32 - i = n → lv_has ls 5 [(4, .int (nI i)), (3, .int (nI 0)), (0, .ref (a 0)), (1, .int (nI j)), (2, .int (nI 3))] → va_P (dC, dI) vwC (mW k a (0, zC r, zW r, zG r, zP r, zS r, zH r, zR r, zO r, zD r, zL r)) H → va_S A s.heap H locs → W p l e _ s m _ below meth c H locs 0 0 (MQ below (va_Qi (fun o u => (o, u) = zCount r (nI j) (nI 3)) (mB dC dI k a) A) _ s 0 0 A) (F0 m 66 ls []) from key _ 0 _ _ ls (by omega) rfl hl hP hS
          clear hS hP hD hl
          intro n
          induction n with
          | zero =>
            intro i H locs ls hi hn hl hP hS
            have hie : i = 32 := by omega
            subst hie
            have hD : va_D A (mW k a (0, zC r, zW r, zG r, zP r, zS r, zH r, zR r, zO r, zD r, zL r)) := mW_D hDk
            refine lv_iload hx hb d_M_count_66 (lv_at hl 0 rfl) ?_
            refine lv_bipush (v := nI 32) hx hb d_M_count_68 (by decide) ?_
            refine lv_icmp_ge hx hb d_M_count_70 rfl (fun _ => ?_) (fun h9 => absurd (nI_le (Nat.le_refl 32) (by omega)) h9)
            refine lv_iload_n hx hb d_M_count_124 rfl (lv_at hl 4 rfl) ?_
            refine lv_iconst (v := nI 2) hx hb d_M_count_125 (by decide) ?_
            refine lv_icmp_ge hx hb d_M_count_126 rfl (fun _ => ?_) (fun h9 => absurd (by decide) h9)
            refine lv_iload_n hx hb d_M_count_133 rfl (lv_at hl 4 rfl) ?_
            refine lv_iconst (v := nI 2) hx hb d_M_count_134 (by decide) ?_
            refine lv_icmp_ne hx hb d_M_count_135 rfl (fun _ => ?_) (fun h9 => absurd h9 (by decide))
            refine lv_aload_n hx hb d_M_count_147 rfl (lv_at hl 2 rfl) ?_
            refine lv_iload_n hx hb d_M_count_148 rfl (lv_at hl 3 rfl) ?_
            refine vp_callSi (va_Run.run (va_runV (As := [.int (nI j)]) (rest := []) ⟨hx, hb, hml, hown, hB⟩ (m_M_isStale l dC dI k a (0, zC r, zW r, zG r, zP r, zS r, zH r, zR r, zO r, zD r, zL r) j hj) (cwV 1 hB (BIG_V bw_408 bw_409 bw_12 bw_18 bw_410) rfl rfl rfl ⟨rfl, by decide, by decide, by decide +kernel⟩ ⟨Nat.le_of_ble_eq_true rfl, Nat.le_of_ble_eq_true rfl⟩) (mRc_pre _ hP hK) rfl rfl hl.1 rfl (lv_room (Nat.le_of_ble_eq_true rfl)) d_M_count_149 ⟨Nat.zero_le _, Nat.zero_le _⟩)) (fun r7 hr7 => ?_)
            refine W.eq (g2 := F0 m 152 ls [.int (bI (zSt r j 32))]) (by rw [hr7, zSt_cg (r := (0, zC r, zW r, zG r, zP r, zS r, zH r, zR r, zO r, zD r, zL r)) (r2 := r) rfl rfl rfl]) ?_
            cases hs : zSt r j 32 with
            | true =>
              refine lv_if_eq hx hb d_M_count_152 rfl (fun h9 => absurd h9 (by decide)) (fun _ => ?_)
              refine lv_iconst (v := bI true) hx hb d_M_count_155 (by decide) ?_
              refine lv_goto hx hb d_M_count_156 rfl ?_
              exact W.iret (v := bI true) hx hb hr (fun t ht hW => ⟨⟨bI true, (0, zC r, zW r, zG r, zP r, zS r, zH r, zR r, zO r, zD r, zL r), rfl, by unfold zCount; rw [hq]; dsimp only; rw [hy]; dsimp only; rw [if_neg (by rw [ho]; decide)]; rw [hs]; first | done | rfl, by show va_P (dC, dI) vwC _ t.heap; rw [ht]; exact hP⟩, hS.F ht⟩) hS.2.2 d_M_count_160
            | false =>
              refine lv_if_eq hx hb d_M_count_152 rfl (fun _ => ?_) (fun h9 => absurd (by decide) h9)
              refine lv_iconst (v := bI false) hx hb d_M_count_159 (by decide) ?_
              exact W.iret (v := bI false) hx hb hr (fun t ht hW => ⟨⟨bI false, (0, zC r, zW r, zG r, zP r, zS r, zH r, zR r, zO r, zD r, zL r), rfl, by unfold zCount; rw [hq]; dsimp only; rw [hy]; dsimp only; rw [if_neg (by rw [ho]; decide)]; rw [hs]; first | done | rfl, by show va_P (dC, dI) vwC _ t.heap; rw [ht]; exact hP⟩, hS.F ht⟩) hS.2.2 d_M_count_160
          | succ n ih =>
            intro i H locs ls hi hn hl hP hS
            have hlt : i < 32 := by omega
            have hD : va_D A (mW k a (0, zC r, zW r, zG r, zP r, zS r, zH r, zR r, zO r, zD r, zL r)) := mW_D hDk
            refine lv_iload hx hb d_M_count_66 (lv_at hl 0 rfl) ?_
            refine lv_bipush (v := nI 32) hx hb d_M_count_68 (by decide) ?_
            refine lv_icmp_ge hx hb d_M_count_70 rfl (fun h9 => absurd h9 (nI_ge hlt (by omega))) (fun _ => ?_)
            refine lv_iload_n hx hb d_M_count_73 rfl (lv_at hl 4 rfl) ?_
            refine lv_if_ne hx hb d_M_count_74 rfl (fun _ => ?_) (fun h9 => absurd h9 (by decide))
            refine lv_iload_n hx hb d_M_count_95 rfl (lv_at hl 4 rfl) ?_
            refine lv_iconst (v := nI 1) hx hb d_M_count_96 (by decide) ?_
            refine lv_icmp_ne hx hb d_M_count_97 rfl (fun _ => ?_) (fun h9 => absurd h9 (by decide))
            refine lv_iinc (k := 0) (v := nI (i + 1)) hx hb d_M_count_118 hl rfl (nI_1 i) (by decide) rfl (fun ls hl => ?_)
            have hl : lv_has ls 5 [(4, .int (nI (i + 1))), (3, .int (nI 0)), (0, .ref (a 0)), (1, .int (nI j)), (2, .int (nI 3))] := hl
            refine lv_goto hx hb d_M_count_121 rfl ?_
            exact ih (i + 1) H _ ls (by omega) (by omega) (by exact hl) hP hS
set_option maxHeartbeats 4000000 in
set_option maxRecDepth 100000 in
theorem m_M_all (l : Launch) (dC : Nat → ClassId) (dI : Nat → Nat → Nat) (k : Nat → ClassId) (a : Nat → Nat) (sz : Nat) (r : xRS) (ww : Int32) : Met l y_M_all w_M_all (rmx 2 0 0 80) (mPc dC dI k a sz r [.ref (a 0), .int ww]) (va_Qi (fun o u => (o, u) = zAll r ww) (mB dC dI k a) (va_A (mW k a r) sz)) 0 0 (va_A (mW k a r) sz) := by
  refine Met.ofW (cc := c_M_all) (maxL := 4) (ret := (some .int)) (by decide) rfl ?_
  intro p e s m args below meth c s₁ B hml hv
  obtain ⟨rfl, hsz, hP, hK, hD0⟩ := hv
  have hx := B.exec
  have hb := B.bytes
  have hr := B.returns
  have hts := atoms_spec (ws := w_M_all) B.pre
  have hB : ∀ w ∈ BIG, w.before _ s = true := fun w h => hts w (List.mem_cons_of_mem _ h)
  have hown : s.vm.findClass R_M = some m.cls := findClass_of_methodNamed B.named
  have hlocks := B.notSynchronized
  have hl := lv_entry ([.ref (a 0), .int ww]) (n := 4) (Nat.le_of_ble_eq_true rfl)
  rw [lg_entry_eq]
  generalize (lg_sl ([.ref (a 0), .int ww]) ++ List.replicate (4 - (lg_sl ([.ref (a 0), .int ww])).length) Slot.unset).toArray = ls at hl ⊢
  have hl : lv_has ls 4 [(0, .ref (a 0)), (1, .int ww)] := hl
  subst hsz
  have hD := hD0.self (sz := s.heap.size)
  generalize hAe : va_A (mW k a r) s.heap.size = A at hD ⊢
  have hA : ∀ q : Nat, s.heap.size ≤ q → A q := fun q h => by rw [← hAe]; exact Or.inr h
  have hS : va_S A s.heap s.heap [] := va_S.rf
  have hDk := hD
  cases hy : ix 3 ww with
  | none =>
    refine lv_aload_n hx hb d_M_all_0 rfl (lv_at hl 0 rfl) ?_
    refine lv_iconst (v := 0) hx hb d_M_all_1 (by decide) ?_
    refine va_put (D := (dC, dI)) (ci := 2) (v := .int 0) (ty := .int) (C := R_M) (T := F_M) (N := 11) hx hb hB in_M tf_M ty_M nm_M hown hK hP hD hS 0 rfl rfl 0 (by decide) (hB _ bw_355) (fun _ h9 => h9) rfl (by decide +kernel) rfl rfl (Nat.le_of_ble_eq_true rfl) d_M_all_2 (fun H locs hP hD hS => ?_)
    have hP : va_P (dC, dI) vwC (mW k a (0, zC r, zW r, zG r, zP r, zS r, zH r, zR r, zO r, zD r, zL r)) H := hP
    have hD : va_D A (mW k a (0, zC r, zW r, zG r, zP r, zS r, zH r, zR r, zO r, zD r, zL r)) := hD
    refine lv_aload_n hx hb d_M_all_5 rfl (lv_at hl 0 rfl) ?_
    refine lv_iload_n hx hb d_M_all_6 rfl (lv_at hl 1 rfl) ?_
    refine lv_i2l hx hb d_M_all_7 rfl ?_
    refine lv_lconst (v := 0) hx hb d_M_all_8 (by decide) ?_
    refine lv_ldc2 hx hb hown (hB _ bw_462) d_M_all_9 ?_
    refine vp_callSi (va_Run.run (va_runS (As := [.long ww.toInt64, .long 0, .long 2]) (rest := [.ref (a 0)]) ⟨hx, hb, hml, hown, hB⟩ (m_M_in l ww.toInt64 0 2) (va_cwS 3 hB (BIG_SS bw_391 bw_392 bw_18 bw_393) rfl rfl rfl ⟨by decide, by decide, by decide +kernel⟩ ⟨Nat.le_of_ble_eq_true rfl, Nat.le_of_ble_eq_true rfl⟩) preEq rfl rfl hl.1 rfl (lv_room (Nat.le_of_ble_eq_true rfl)) d_M_all_12 ⟨Nat.zero_le _, Nat.zero_le _⟩)) (fun r7 hr7 => ?_)
    refine W.eq (g2 := F0 m 15 ls [.int (bI false), .ref (a 0)]) (by rw [hr7, in_ix (n := 2) (by decide), hy]; rfl) ?_
    refine lv_if_ne hx hb d_M_all_15 rfl (fun h9 => absurd h9 (by decide)) (fun _ => ?_)
    refine lv_iconst (v := bI true) hx hb d_M_all_18 (by decide) ?_
    refine lv_goto hx hb d_M_all_19 rfl ?_
    refine lv_iconst (v := 1) hx hb d_M_all_23 (by decide) ?_
    have hFc := va_free (wc := mW k a (0, zC r, zW r, zG r, zP r, zS r, zH r, zR r, zO r, zD r, zL r)) hD hS hA [0, 1, 2, 3, 4, 5, 6, 7, 8] rfl
    refine va_calli (va_runV (As := [.int (bI true), .int 1]) (rest := []) ⟨hx, hb, hml, hown, hB⟩ (m_M_fails_t l dC dI k a _ (0, zC r, zW r, zG r, zP r, zS r, zH r, zR r, zO r, zD r, zL r) 1 rfl (by decide)) (cwV 2 hB (BIG_V bw_394 bw_395 bw_10 bw_18 bw_396) rfl rfl rfl ⟨rfl, by decide, by decide, by decide +kernel⟩ ⟨Nat.le_of_ble_eq_true rfl, Nat.le_of_ble_eq_true rfl⟩) (mPc_pre _ hP hK hD) rfl rfl hl.1 rfl (lv_room (Nat.le_of_ble_eq_true rfl)) d_M_all_24 ⟨Nat.zero_le _, Nat.zero_le _⟩) hS (fun q _ h => hFc q h) hFc (fun r7 u t H1 locs ht hvm hw hB1 hz1 hk1 hS => ?_)
    obtain ⟨hw1, hw2⟩ := hw
    subst hw1
    subst hw2
    have hP : va_P (dC, dI) vwC (mW k a (zErr (0, zC r, zW r, zG r, zP r, zS r, zH r, zR r, zO r, zD r, zL r) 1)) H1 := by rw [← ht]; exact hB1
    have hD : va_D A (mW k a (zErr (0, zC r, zW r, zG r, zP r, zS r, zH r, zR r, zO r, zD r, zL r) 1)) := mW_D hDk
    clear hFc hB1 hk1 hz1 ht hvm
    generalize H1 = H at hP hS ⊢
    have hP : va_P (dC, dI) vwC (mW k a (1, zC r, zW r, zG r, zP r, zS r, zH r, zR r, zO r, zD r, zL r)) H := hP
    have hD : va_D A (mW k a (1, zC r, zW r, zG r, zP r, zS r, zH r, zR r, zO r, zD r, zL r)) := hD
    refine lv_if_eq hx hb d_M_all_27 rfl (fun h9 => absurd h9 (by decide)) (fun _ => ?_)
    refine lv_iconst (v := 0) hx hb d_M_all_30 (by decide) ?_
    exact W.iret (v := 0) hx hb hr (fun t ht hW => ⟨⟨0, (1, zC r, zW r, zG r, zP r, zS r, zH r, zR r, zO r, zD r, zL r), rfl, by unfold zAll; rw [hy]; first | done | rfl, by show va_P (dC, dI) vwC _ t.heap; rw [ht]; exact hP⟩, hS.F ht⟩) hS.2.2 d_M_all_31
  | some c8 =>
    obtain ⟨hc8, htc⟩ := ix_some (by decide) hy
    subst htc
    refine lv_aload_n hx hb d_M_all_0 rfl (lv_at hl 0 rfl) ?_
    refine lv_iconst (v := 0) hx hb d_M_all_1 (by decide) ?_
    refine va_put (D := (dC, dI)) (ci := 2) (v := .int 0) (ty := .int) (C := R_M) (T := F_M) (N := 11) hx hb hB in_M tf_M ty_M nm_M hown hK hP hD hS 0 rfl rfl 0 (by decide) (hB _ bw_355) (fun _ h9 => h9) rfl (by decide +kernel) rfl rfl (Nat.le_of_ble_eq_true rfl) d_M_all_2 (fun H locs hP hD hS => ?_)
    have hP : va_P (dC, dI) vwC (mW k a (0, zC r, zW r, zG r, zP r, zS r, zH r, zR r, zO r, zD r, zL r)) H := hP
    have hD : va_D A (mW k a (0, zC r, zW r, zG r, zP r, zS r, zH r, zR r, zO r, zD r, zL r)) := hD
    refine lv_aload_n hx hb d_M_all_5 rfl (lv_at hl 0 rfl) ?_
    refine lv_iload_n hx hb d_M_all_6 rfl (lv_at hl 1 rfl) ?_
    refine lv_i2l hx hb d_M_all_7 rfl ?_
    refine lv_lconst (v := 0) hx hb d_M_all_8 (by decide) ?_
    refine lv_ldc2 hx hb hown (hB _ bw_462) d_M_all_9 ?_
    refine vp_callSi (va_Run.run (va_runS (As := [.long ((nI c8).toInt64), .long 0, .long 2]) (rest := [.ref (a 0)]) ⟨hx, hb, hml, hown, hB⟩ (m_M_in l (nI c8).toInt64 0 2) (va_cwS 3 hB (BIG_SS bw_391 bw_392 bw_18 bw_393) rfl rfl rfl ⟨by decide, by decide, by decide +kernel⟩ ⟨Nat.le_of_ble_eq_true rfl, Nat.le_of_ble_eq_true rfl⟩) preEq rfl rfl hl.1 rfl (lv_room (Nat.le_of_ble_eq_true rfl)) d_M_all_12 ⟨Nat.zero_le _, Nat.zero_le _⟩)) (fun r7 hr7 => ?_)
    refine W.eq (g2 := F0 m 15 ls [.int (bI true), .ref (a 0)]) (by rw [hr7, in_ix (n := 2) (by decide), hy]; rfl) ?_
    refine lv_if_ne hx hb d_M_all_15 rfl (fun _ => ?_) (fun h9 => absurd h9 (by decide))
    refine lv_iconst (v := bI false) hx hb d_M_all_22 (by decide) ?_
    refine lv_iconst (v := 1) hx hb d_M_all_23 (by decide) ?_
    have hFc := va_free (wc := mW k a (0, zC r, zW r, zG r, zP r, zS r, zH r, zR r, zO r, zD r, zL r)) hD hS hA [0, 1, 2, 3, 4, 5, 6, 7, 8] rfl
    refine va_calli (va_runV (As := [.int (bI false), .int 1]) (rest := []) ⟨hx, hb, hml, hown, hB⟩ (m_M_fails_f l dC dI k a _ (0, zC r, zW r, zG r, zP r, zS r, zH r, zR r, zO r, zD r, zL r) 1 rfl) (cwV 2 hB (BIG_V bw_394 bw_395 bw_10 bw_18 bw_396) rfl rfl rfl ⟨rfl, by decide, by decide, by decide +kernel⟩ ⟨Nat.le_of_ble_eq_true rfl, Nat.le_of_ble_eq_true rfl⟩) (mPc_pre _ hP hK hD) rfl rfl hl.1 rfl (lv_room (Nat.le_of_ble_eq_true rfl)) d_M_all_24 ⟨Nat.zero_le _, Nat.zero_le _⟩) hS (fun q _ h => hFc q h) hFc (fun r7 u t H1 locs ht hvm hw hB1 hz1 hk1 hS => ?_)
    obtain ⟨hw1, hw2⟩ := hw
    subst hw1
    subst hw2
    have hP : va_P (dC, dI) vwC (mW k a (0, zC r, zW r, zG r, zP r, zS r, zH r, zR r, zO r, zD r, zL r)) H1 := by rw [← ht]; exact hB1
    have hD : va_D A (mW k a (0, zC r, zW r, zG r, zP r, zS r, zH r, zR r, zO r, zD r, zL r)) := mW_D hDk
    clear hFc hB1 hk1 hz1 ht hvm
    generalize H1 = H at hP hS ⊢
    refine lv_if_eq hx hb d_M_all_27 rfl (fun _ => ?_) (fun h9 => absurd (by decide) h9)
    refine lv_iconst (v := nI 0) hx hb d_M_all_32 (by decide) ?_
    refine lv_istore_n hx hb d_M_all_33 rfl hl (by decide) rfl (fun ls hl => ?_)
    have hl : lv_has ls 4 [(2, .int (nI 0)), (0, .ref (a 0)), (1, .int (nI c8))] := hl
    refine lv_iconst (v := nI 0) hx hb d_M_all_34 (by decide) ?_
    refine lv_istore_n hx hb d_M_all_35 rfl hl (by decide) rfl (fun ls hl => ?_)
    have hl : lv_has ls 4 [(3, .int (nI 0)), (2, .int (nI 0)), (0, .ref (a 0)), (1, .int (nI c8))] := hl
    suffices key : ∀ n i (H : Heap) (locs : List Loc) (ls : Array Slot), i ≤ 8 → 8 - i = n → lv_has ls 4 [(3, .int (nI i)), (2, .int (nI (zOpn r i))), (0, .ref (a 0)), (1, .int (nI c8))] → va_P (dC, dI) vwC (mW k a (0, zC r, zW r, zG r, zP r, zS r, zH r, zR r, zO r, zD r, zL r)) H → va_S A s.heap H locs → W p l e _ s m _ below meth c H locs 0 0 (MQ below (va_Qi (fun o u => (o, u) = zAll r (nI c8)) (mB dC dI k a) A) _ s 0 0 A) (F0 m 36 ls []) from key _ 0 _ _ ls (by omega) rfl hl hP hS
    clear hS hP hD hl
    intro n
    induction n with
    | zero =>
      intro i H locs ls hi hn hl hP hS
      have hie : i = 8 := by omega
      subst hie
      have hD : va_D A (mW k a (0, zC r, zW r, zG r, zP r, zS r, zH r, zR r, zO r, zD r, zL r)) := mW_D hDk
      refine lv_iload_n hx hb d_M_all_36 rfl (lv_at hl 0 rfl) ?_
      refine lv_bipush (v := nI 8) hx hb d_M_all_37 (by decide) ?_
      refine lv_icmp_ge hx hb d_M_all_39 rfl (fun _ => ?_) (fun h9 => absurd (nI_le (Nat.le_refl 8) (by omega)) h9)
      refine lv_iload_n hx hb d_M_all_60 rfl (lv_at hl 3 rfl) ?_
      have h4 : c8 = 0 ∨ c8 = 1 ∨ c8 = 2 := by omega
      rcases h4 with h4 | h4 | h4
      · subst h4
        refine lv_if_ne hx hb d_M_all_61 rfl (fun h9 => absurd h9 (fun q => q rfl)) (fun _ => ?_)
        refine lv_iload_n hx hb d_M_all_64 rfl (lv_at hl 1 rfl) ?_
        refine lv_goto hx hb d_M_all_65 rfl ?_
        exact W.iret (v := nI (zOpn r 8)) hx hb hr (fun t ht hW => ⟨⟨nI (zOpn r 8), (0, zC r, zW r, zG r, zP r, zS r, zH r, zR r, zO r, zD r, zL r), rfl, by unfold zAll; rw [hy]; first | done | rfl, by show va_P (dC, dI) vwC _ t.heap; rw [ht]; exact hP⟩, hS.F ht⟩) hS.2.2 d_M_all_84
      · subst h4
        refine lv_if_ne hx hb d_M_all_61 rfl (fun _ => ?_) (fun h9 => absurd h9 (by decide))
        refine lv_iload_n hx hb d_M_all_68 rfl (lv_at hl 3 rfl) ?_
        refine lv_iconst (v := nI 1) hx hb d_M_all_69 (by decide) ?_
        refine lv_icmp_ne hx hb d_M_all_70 rfl (fun h9 => absurd h9 (fun q => q rfl)) (fun _ => ?_)
        refine lv_aload_n hx hb d_M_all_73 rfl (lv_at hl 2 rfl) ?_
        refine va_get (D := (dC, dI)) (ci := 2) (v := .int (zD r)) (C := R_M) (T := F_M) (N := 11) hx hb hB in_M hown hK hP 0 rfl rfl 9 (by decide) (hB _ bw_364) (fun _ h9 => h9) rfl d_M_all_74 ?_
        refine lv_goto hx hb d_M_all_77 rfl ?_
        exact W.iret (v := zD r) hx hb hr (fun t ht hW => ⟨⟨zD r, (0, zC r, zW r, zG r, zP r, zS r, zH r, zR r, zO r, zD r, zL r), rfl, by unfold zAll; rw [hy]; first | done | rfl, by show va_P (dC, dI) vwC _ t.heap; rw [ht]; exact hP⟩, hS.F ht⟩) hS.2.2 d_M_all_84
      · subst h4
        refine lv_if_ne hx hb d_M_all_61 rfl (fun _ => ?_) (fun h9 => absurd h9 (by decide))
        refine lv_iload_n hx hb d_M_all_68 rfl (lv_at hl 3 rfl) ?_
        refine lv_iconst (v := nI 1) hx hb d_M_all_69 (by decide) ?_
        refine lv_icmp_ne hx hb d_M_all_70 rfl (fun _ => ?_) (fun h9 => absurd h9 (by decide))
        refine lv_aload_n hx hb d_M_all_80 rfl (lv_at hl 2 rfl) ?_
        refine va_get (D := (dC, dI)) (ci := 2) (v := .int (zL r)) (C := R_M) (T := F_M) (N := 11) hx hb hB in_M hown hK hP 0 rfl rfl 10 (by decide) (hB _ bw_365) (fun _ h9 => h9) rfl d_M_all_81 ?_
        exact W.iret (v := zL r) hx hb hr (fun t ht hW => ⟨⟨zL r, (0, zC r, zW r, zG r, zP r, zS r, zH r, zR r, zO r, zD r, zL r), rfl, by unfold zAll; rw [hy]; first | done | rfl, by show va_P (dC, dI) vwC _ t.heap; rw [ht]; exact hP⟩, hS.F ht⟩) hS.2.2 d_M_all_84
    | succ n ih =>
      intro i H locs ls hi hn hl hP hS
      have hlt : i < 8 := by omega
      have hD : va_D A (mW k a (0, zC r, zW r, zG r, zP r, zS r, zH r, zR r, zO r, zD r, zL r)) := mW_D hDk
      refine lv_iload_n hx hb d_M_all_36 rfl (lv_at hl 0 rfl) ?_
      refine lv_bipush (v := nI 8) hx hb d_M_all_37 (by decide) ?_
      refine lv_icmp_ge hx hb d_M_all_39 rfl (fun h9 => absurd h9 (nI_ge hlt (by omega))) (fun _ => ?_)
      cases hh : zO r i with
      | true =>
        have hz : zOpn r (i + 1) = zOpn r i + 1 := by show zOpn r i + (if zO r i = true then 1 else 0) = _; rw [if_pos hh]
        refine lv_aload_n hx hb d_M_all_42 rfl (lv_at hl 2 rfl) ?_
        refine va_get (D := (dC, dI)) (ci := 2) (v := .ref (a 8)) (C := R_M) (T := F_M) (N := 11) hx hb hB in_M hown hK hP 0 rfl rfl 8 (by decide) (hB _ bw_363) (fun _ h9 => h9) rfl d_M_all_43 ?_
        refine lv_iload_n hx hb d_M_all_46 rfl (lv_at hl 0 rfl) ?_
        refine va_zald hx hb hK hP 8 4 rfl rfl (pk_in i 8 (by omega)) d_M_all_47 ?_
        refine W.eq (g2 := F0 m 48 ls [.int (bI (zO r i))]) (by rw [cl_nI (by omega)]) ?_
        refine W.eq (g2 := F0 m 48 ls [.int (bI true)]) (by rw [hh]) ?_
        refine lv_if_eq hx hb d_M_all_48 rfl (fun h9 => absurd h9 (by decide)) (fun _ => ?_)
        refine lv_iinc (k := 1) (v := nI (zOpn r i + 1)) hx hb d_M_all_51 hl rfl (nI_1 _) (by decide) rfl (fun ls hl => ?_)
        have hl : lv_has ls 4 [(2, .int (nI (zOpn r i + 1))), (3, .int (nI i)), (0, .ref (a 0)), (1, .int (nI c8))] := hl
        refine lv_iinc (k := 1) (v := nI (i + 1)) hx hb d_M_all_54 hl rfl (nI_1 i) (by decide) rfl (fun ls hl => ?_)
        have hl : lv_has ls 4 [(3, .int (nI (i + 1))), (2, .int (nI (zOpn r i + 1))), (0, .ref (a 0)), (1, .int (nI c8))] := hl
        refine lv_goto hx hb d_M_all_57 rfl ?_
        exact ih (i + 1) H _ ls (by omega) (by omega) (by rw [hz]; exact hl) hP hS
      | false =>
        have hz : zOpn r (i + 1) = zOpn r i + 0 := by show zOpn r i + (if zO r i = true then 1 else 0) = _; rw [if_neg (by rw [hh]; decide)]
        refine lv_aload_n hx hb d_M_all_42 rfl (lv_at hl 2 rfl) ?_
        refine va_get (D := (dC, dI)) (ci := 2) (v := .ref (a 8)) (C := R_M) (T := F_M) (N := 11) hx hb hB in_M hown hK hP 0 rfl rfl 8 (by decide) (hB _ bw_363) (fun _ h9 => h9) rfl d_M_all_43 ?_
        refine lv_iload_n hx hb d_M_all_46 rfl (lv_at hl 0 rfl) ?_
        refine va_zald hx hb hK hP 8 4 rfl rfl (pk_in i 8 (by omega)) d_M_all_47 ?_
        refine W.eq (g2 := F0 m 48 ls [.int (bI (zO r i))]) (by rw [cl_nI (by omega)]) ?_
        refine W.eq (g2 := F0 m 48 ls [.int (bI false)]) (by rw [hh]) ?_
        refine lv_if_eq hx hb d_M_all_48 rfl (fun _ => ?_) (fun h9 => absurd (by decide) h9)
        refine lv_iinc (k := 0) (v := nI (i + 1)) hx hb d_M_all_54 hl rfl (nI_1 i) (by decide) rfl (fun ls hl => ?_)
        have hl : lv_has ls 4 [(3, .int (nI (i + 1))), (2, .int (nI (zOpn r i))), (0, .ref (a 0)), (1, .int (nI c8))] := hl
        refine lv_goto hx hb d_M_all_57 rfl ?_
        exact ih (i + 1) H _ ls (by omega) (by omega) (by rw [hz]; exact hl) hP hS
