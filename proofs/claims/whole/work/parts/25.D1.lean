/-! The desk: the methods that do not throw. -/
set_option maxHeartbeats 4000000 in
set_option maxRecDepth 100000 in
theorem m_D_endStale (l : Launch) (dC : Nat → ClassId) (dI : Nat → Nat → Nat) (k : Nat → ClassId) (b : Nat → Nat) (sz : Nat) (d : xDS) (j : Nat) (hj : j < 8) : Met l y_D_endStale w_D_endStale (rmx 1 0 0 32) (dPc dC dI k b sz d [.ref (b 0), .ref (yA b j 0)]) (va_Qv (fun u => u = (yN d, yC d, va_up (yT d) j (tClose (yT d j)), yD d, yS d + 1)) (dB dC dI k b) (va_A (dW k b d) sz)) 0 0 (va_A (dW k b d) sz) := by
  refine Met.ofW (cc := c_D_endStale) (maxL := 2) (ret := none) (by decide) rfl ?_
  intro p e s m args below meth c s₁ B hml hv
  obtain ⟨rfl, hsz, hP, hK, hD0, hTh⟩ := hv
  have hx := B.exec
  have hb := B.bytes
  have hr := B.returns
  have hts := atoms_spec (ws := w_D_endStale) B.pre
  have hB : ∀ w ∈ BIG, w.before _ s = true := fun w h => hts w (List.mem_cons_of_mem _ h)
  have hown : s.vm.findClass R_D = some m.cls := findClass_of_methodNamed B.named
  have hlocks := B.notSynchronized
  have hl := lv_entry ([.ref (b 0), .ref (yA b j 0)]) (n := 2) (Nat.le_of_ble_eq_true rfl)
  rw [lg_entry_eq]
  generalize (lg_sl ([.ref (b 0), .ref (yA b j 0)]) ++ List.replicate (2 - (lg_sl ([.ref (b 0), .ref (yA b j 0)])).length) Slot.unset).toArray = ls at hl ⊢
  have hl : lv_has ls 2 [(0, .ref (b 0)), (1, .ref (yA b j 0))] := hl
  subst hsz
  have hst := xs_world hP
  have hD := hD0.self (sz := s.heap.size)
  generalize hAe : va_A (dW k b d) s.heap.size = A at hD hst ⊢
  have hA : ∀ q : Nat, s.heap.size ≤ q → A q := fun q h => by rw [← hAe]; exact Or.inr h
  have hS : va_S A s.heap s.heap [] := va_S.rf
  have hDk := hD
  refine lv_aload_n hx hb d_D_endStale_0 rfl (lv_at hl 1 rfl) ?_
  have hFc := dW_free hj hD hS hA
  refine va_callv (va_runV (As := []) (rest := []) ⟨hx, hb, hml, hown, hB⟩ (m_T_close l dC dI k (yA b j) _ (yT d j)) (cwV 0 hB (BIG_V bw_199 bw_200 bw_201 bw_17 bw_202) rfl rfl rfl ⟨rfl, by decide, by decide, by decide +kernel⟩ ⟨Nat.le_of_ble_eq_true rfl, Nat.le_of_ble_eq_true rfl⟩) (tPc_pre _ (dW_t hj hP) hK (dW_tD hj hD)) rfl rfl hl.1 rfl (lv_room (Nat.le_of_ble_eq_true rfl)) d_D_endStale_1 ⟨Nat.le_of_ble_eq_true rfl, Nat.le_of_ble_eq_true rfl⟩) hS (fun q _ h => hFc q h) hFc (fun u t H1 locs ht hvm hw hB1 hz1 hk1 hS => ?_)
  subst hw
  have hP : va_P (dC, dI) vwC (dW k b (yN d, yC d, va_up (yT d) j (tClose (yT d j)), yD d, yS d)) H1 := by rw [← ht] at hk1 ⊢; exact dW_join hj hP hD hB1 hk1
  have hD : va_D A (dW k b (yN d, yC d, va_up (yT d) j (tClose (yT d j)), yD d, yS d)) := dW_D hDk
  clear hFc hB1 hk1 hz1 ht hvm
  generalize H1 = H at hP hS ⊢
  refine lv_aload_n hx hb d_D_endStale_4 rfl (lv_at hl 0 rfl) ?_
  refine lv_dup hx hb d_D_endStale_5 rfl ?_
  refine va_get (D := (dC, dI)) (ci := 1) (v := .int (yS d)) (C := R_D) (T := F_D) (N := 5) hx hb hB in_D hown hK hP 0 rfl rfl 4 (by decide) (hB _ bw_60) (fun _ h9 => h9) rfl d_D_endStale_6 ?_
  refine lv_iconst (v := nI 1) hx hb d_D_endStale_9 (by decide) ?_
  refine lv_iadd hx hb d_D_endStale_10 ?_
  refine va_put (D := (dC, dI)) (ci := 1) (v := .int ((yS d) + (nI 1))) (ty := .int) (C := R_D) (T := F_D) (N := 5) hx hb hB in_D tf_D ty_D nm_D hown hK hP hD hS 0 rfl rfl 4 (by decide) (hB _ bw_60) (fun _ h9 => h9) rfl (by decide +kernel) rfl rfl (Nat.le_of_ble_eq_true rfl) d_D_endStale_11 (fun H locs hP hD hS => ?_)
  have hP : va_P (dC, dI) vwC (dW k b (yN d, yC d, va_up (yT d) j (tClose (yT d j)), yD d, ((yS d) + (nI 1)))) H := hP
  have hD : va_D A (dW k b (yN d, yC d, va_up (yT d) j (tClose (yT d j)), yD d, ((yS d) + (nI 1)))) := dW_D hDk
  exact W.vret hx hb hr (fun t ht hW => ⟨⟨(yN d, yC d, va_up (yT d) j (tClose (yT d j)), yD d, ((yS d) + (nI 1))), rfl, rfl, by show va_P (dC, dI) vwC _ t.heap; rw [ht]; exact hP⟩, hS.F ht⟩) hS.2.2 d_D_endStale_14
set_option maxHeartbeats 4000000 in
set_option maxRecDepth 100000 in
theorem m_D_change (l : Launch) (dC : Nat → ClassId) (dI : Nat → Nat → Nat) (k : Nat → ClassId) (b : Nat → Nat) (sz : Nat) (d : xDS) (c0 : Nat) (x : Int64) (hc0 : c0 < 32) : Met l y_D_change w_D_change (rmx 2 0 0 60) (dPc dC dI k b sz d [.ref (b 0), .int (nI c0), .long x]) (va_Qv (fun u => u = yChange d c0 x) (dB dC dI k b) (va_A (dW k b d) sz)) 0 0 (va_A (dW k b d) sz) := by
  refine Met.ofW (cc := c_D_change) (maxL := 5) (ret := none) (by decide) rfl ?_
  intro p e s m args below meth c s₁ B hml hv
  obtain ⟨rfl, hsz, hP, hK, hD0, hTh⟩ := hv
  have hx := B.exec
  have hb := B.bytes
  have hr := B.returns
  have hts := atoms_spec (ws := w_D_change) B.pre
  have hB : ∀ w ∈ BIG, w.before _ s = true := fun w h => hts w (List.mem_cons_of_mem _ h)
  have hown : s.vm.findClass R_D = some m.cls := findClass_of_methodNamed B.named
  have hlocks := B.notSynchronized
  have hl := lv_entry ([.ref (b 0), .int (nI c0), .long x]) (n := 5) (Nat.le_of_ble_eq_true rfl)
  rw [lg_entry_eq]
  generalize (lg_sl ([.ref (b 0), .int (nI c0), .long x]) ++ List.replicate (5 - (lg_sl ([.ref (b 0), .int (nI c0), .long x])).length) Slot.unset).toArray = ls at hl ⊢
  have hl : lv_has ls 5 [(0, .ref (b 0)), (1, .int (nI c0)), (2, .long x)] := hl
  subst hsz
  have hst := xs_world hP
  have hD := hD0.self (sz := s.heap.size)
  generalize hAe : va_A (dW k b d) s.heap.size = A at hD hst ⊢
  have hA : ∀ q : Nat, s.heap.size ≤ q → A q := fun q h => by rw [← hAe]; exact Or.inr h
  have hS : va_S A s.heap s.heap [] := va_S.rf
  have hDk := hD
  refine lv_aload_n hx hb d_D_change_0 rfl (lv_at hl 0 rfl) ?_
  refine va_get (D := (dC, dI)) (ci := 1) (v := .ref (b 1)) (C := R_D) (T := F_D) (N := 5) hx hb hB in_D hown hK hP 0 rfl rfl 0 (by decide) (hB _ bw_56) (fun _ h9 => h9) rfl d_D_change_1 ?_
  refine lv_iload_n hx hb d_D_change_4 rfl (lv_at hl 1 rfl) ?_
  refine lv_lload_n hx hb d_D_change_5 rfl (lv_at hl 2 rfl) ?_
  refine va_last hx hb hK hP hD hS 1 1 rfl rfl (pk_in c0 32 (by omega)) d_D_change_6 (fun H locs hP hD hS => ?_)
  rw [cl_nI (by omega)] at hP
  have hP : va_P (dC, dI) vwC (dW k b (vp_updL (yN d) c0 x, yC d, yT d, yD d, yS d)) H := hP
  have hD : va_D A (dW k b (vp_updL (yN d) c0 x, yC d, yT d, yD d, yS d)) := dW_D hDk
  refine lv_aload_n hx hb d_D_change_7 rfl (lv_at hl 0 rfl) ?_
  refine va_get (D := (dC, dI)) (ci := 1) (v := .ref (b 2)) (C := R_D) (T := F_D) (N := 5) hx hb hB in_D hown hK hP 0 rfl rfl 1 (by decide) (hB _ bw_57) (fun _ h9 => h9) rfl d_D_change_8 ?_
  refine lv_iload_n hx hb d_D_change_11 rfl (lv_at hl 1 rfl) ?_
  refine lv_dup2_11 hx hb d_D_change_12 rfl rfl ?_
  refine va_iald hx hb hK hP 2 0 rfl rfl (pk_in c0 32 (by omega)) d_D_change_13 ?_
  refine W.eq (g2 := F0 m 14 ls [.int (yC d c0), .int (nI c0), .ref (b 2)]) (by rw [cl_nI (by omega)]) ?_
  refine lv_iconst (v := nI 1) hx hb d_D_change_14 (by decide) ?_
  refine lv_iadd hx hb d_D_change_15 ?_
  refine va_iast hx hb hK hP hD hS 2 0 rfl rfl (pk_in c0 32 (by omega)) d_D_change_16 (fun H locs hP hD hS => ?_)
  rw [cl_nI (by omega)] at hP
  have hP : va_P (dC, dI) vwC (dW k b (vp_updL (yN d) c0 x, upd (yC d) c0 ((yC d c0) + (nI 1)), yT d, yD d, yS d)) H := hP
  have hD : va_D A (dW k b (vp_updL (yN d) c0 x, upd (yC d) c0 ((yC d c0) + (nI 1)), yT d, yD d, yS d)) := dW_D hDk
  refine lv_iconst (v := nI 0) hx hb d_D_change_17 (by decide) ?_
  refine lv_istore hx hb d_D_change_18 hl (by decide) rfl (fun ls hl => ?_)
  have hl : lv_has ls 5 [(4, .int (nI 0)), (0, .ref (b 0)), (1, .int (nI c0)), (2, .long x)] := hl
  suffices key : ∀ n i (H : Heap) (locs : List Loc) (ls : Array Slot), i ≤ 8 → 8 - i = n → lv_has ls 5 [(4, .int (nI i)), (0, .ref (b 0)), (1, .int (nI c0)), (2, .long x)] → va_P (dC, dI) vwC (dW k b (vp_updL (yN d) c0 x, upd (yC d) c0 ((yC d c0) + (nI 1)), yNote (yT d) c0 i, yD d, yS d)) H → va_S A s.heap H locs → W p l e _ s m _ below meth c H locs 0 0 (MQ below (va_Qv (fun u => u = yChange d c0 x) (dB dC dI k b) A) _ s 0 0 A) (F0 m 20 ls []) from key _ 0 _ _ ls (by omega) rfl hl hP hS
  clear hS hP hD hl
  intro n
  induction n with
  | zero =>
    intro i H locs ls hi hn hl hP hS
    have hie : i = 8 := by omega
    subst hie
    have hD : va_D A (dW k b (vp_updL (yN d) c0 x, upd (yC d) c0 ((yC d c0) + (nI 1)), yNote (yT d) c0 8, yD d, yS d)) := dW_D hDk
    refine lv_iload hx hb d_D_change_20 (lv_at hl 0 rfl) ?_
    refine lv_bipush (v := nI 8) hx hb d_D_change_22 (by decide) ?_
    refine lv_icmp_ge hx hb d_D_change_24 rfl (fun _ => ?_) (fun h9 => absurd (nI_le (Nat.le_refl 8) (by omega)) h9)
    exact W.vret hx hb hr (fun t ht hW => ⟨⟨(vp_updL (yN d) c0 x, upd (yC d) c0 ((yC d c0) + (nI 1)), yNote (yT d) c0 8, yD d, yS d), rfl, rfl, by show va_P (dC, dI) vwC _ t.heap; rw [ht]; exact hP⟩, hS.F ht⟩) hS.2.2 d_D_change_44
  | succ n ih =>
    intro i H locs ls hi hn hl hP hS
    have hlt : i < 8 := by omega
    have hD : va_D A (dW k b (vp_updL (yN d) c0 x, upd (yC d) c0 ((yC d c0) + (nI 1)), yNote (yT d) c0 i, yD d, yS d)) := dW_D hDk
    refine lv_iload hx hb d_D_change_20 (lv_at hl 0 rfl) ?_
    refine lv_bipush (v := nI 8) hx hb d_D_change_22 (by decide) ?_
    refine lv_icmp_ge hx hb d_D_change_24 rfl (fun h9 => absurd h9 (nI_ge hlt (by omega))) (fun _ => ?_)
    refine lv_aload_n hx hb d_D_change_27 rfl (lv_at hl 1 rfl) ?_
    refine va_get (D := (dC, dI)) (ci := 1) (v := .ref (b 3)) (C := R_D) (T := F_D) (N := 5) hx hb hB in_D hown hK hP 0 rfl rfl 2 (by decide) (hB _ bw_58) (fun _ h9 => h9) rfl d_D_change_28 ?_
    refine lv_iload hx hb d_D_change_31 (lv_at hl 0 rfl) ?_
    refine va_aldq hx hb hK hP 3 3 rfl rfl (pk_in i 8 (by omega)) d_D_change_33 ?_
    refine W.eq (g2 := F0 m 34 ls [.ref (yA b i 0)]) (by show F0 _ _ _ (va_rf (some (yA b (nI i).toNatClampNeg 0)) :: _) = _; rw [cl_nI (by omega)]; first | done | rfl) ?_
    refine lv_iload_n hx hb d_D_change_34 rfl (lv_at hl 2 rfl) ?_
    have hFc := dW_free hlt hD hS hA
    refine va_callv (va_runV (As := [.int (nI c0)]) (rest := []) ⟨hx, hb, hml, hown, hB⟩ (m_T_noteChange l dC dI k (yA b i) _ (yT (vp_updL (yN d) c0 x, upd (yC d) c0 ((yC d c0) + (nI 1)), yNote (yT d) c0 i, yD d, yS d) i) c0 hc0) (cwV 1 hB (BIG_V bw_286 bw_287 bw_288 bw_17 bw_289) rfl rfl rfl ⟨rfl, by decide, by decide, by decide +kernel⟩ ⟨Nat.le_of_ble_eq_true rfl, Nat.le_of_ble_eq_true rfl⟩) (tPc_pre _ (dW_t hlt hP) hK (dW_tD hlt hD)) rfl rfl hl.1 rfl (lv_room (Nat.le_of_ble_eq_true rfl)) d_D_change_35 ⟨Nat.le_of_ble_eq_true rfl, Nat.le_of_ble_eq_true rfl⟩) hS (fun q _ h => hFc q h) hFc (fun u t H1 locs ht hvm hw hB1 hz1 hk1 hS => ?_)
    subst hw
    have hP : va_P (dC, dI) vwC (dW k b (vp_updL (yN d) c0 x, upd (yC d) c0 ((yC d c0) + (nI 1)), va_up (yNote (yT d) c0 i) i (tNote (yNote (yT d) c0 i i) c0), yD d, yS d)) H1 := by rw [← ht] at hk1 ⊢; exact dW_join hlt hP hD hB1 hk1
    have hD : va_D A (dW k b (vp_updL (yN d) c0 x, upd (yC d) c0 ((yC d c0) + (nI 1)), va_up (yNote (yT d) c0 i) i (tNote (yNote (yT d) c0 i i) c0), yD d, yS d)) := dW_D hDk
    clear hFc hB1 hk1 hz1 ht hvm
    generalize H1 = H at hP hS ⊢
    refine lv_iinc (k := 0) (v := nI (i + 1)) hx hb d_D_change_38 hl rfl (nI_1 i) (by decide) rfl (fun ls hl => ?_)
    have hl : lv_has ls 5 [(4, .int (nI (i + 1))), (0, .ref (b 0)), (1, .int (nI c0)), (2, .long x)] := hl
    refine lv_goto hx hb d_D_change_41 rfl ?_
    exact ih (i + 1) H _ ls (by omega) (by omega) hl hP hS
set_option maxHeartbeats 4000000 in
set_option maxRecDepth 100000 in
theorem m_D_openTotal (l : Launch) (dC : Nat → ClassId) (dI : Nat → Nat → Nat) (k : Nat → ClassId) (b : Nat → Nat) (d : xDS) : Met l y_D_openTotal w_D_openTotal (rmx 1 0 0 32) (dRc dC dI k b d [.ref (b 0)]) (vp_Si (fun o => o = nI (yOpen (yT d) 8))) 0 0 (fun _ => False) := by
  refine Met.ofW (cc := c_D_openTotal) (maxL := 3) (ret := (some .int)) (by decide) rfl ?_
  intro p e s m args below meth c s₁ B hml hv
  obtain ⟨rfl, hP, hK⟩ := hv
  have hx := B.exec
  have hb := B.bytes
  have hr := B.returns
  have hts := atoms_spec (ws := w_D_openTotal) B.pre
  have hB : ∀ w ∈ BIG, w.before _ s = true := fun w h => hts w (List.mem_cons_of_mem _ h)
  have hown : s.vm.findClass R_D = some m.cls := findClass_of_methodNamed B.named
  have hlocks := B.notSynchronized
  have hl := lv_entry ([.ref (b 0)]) (n := 3) (Nat.le_of_ble_eq_true rfl)
  rw [lg_entry_eq]
  generalize (lg_sl ([.ref (b 0)]) ++ List.replicate (3 - (lg_sl ([.ref (b 0)])).length) Slot.unset).toArray = ls at hl ⊢
  have hl : lv_has ls 3 [(0, .ref (b 0))] := hl
  refine lv_iconst (v := nI 0) hx hb d_D_openTotal_0 (by decide) ?_
  refine lv_istore_n hx hb d_D_openTotal_1 rfl hl (by decide) rfl (fun ls hl => ?_)
  have hl : lv_has ls 3 [(1, .int (nI 0)), (0, .ref (b 0))] := hl
  refine lv_iconst (v := nI 0) hx hb d_D_openTotal_2 (by decide) ?_
  refine lv_istore_n hx hb d_D_openTotal_3 rfl hl (by decide) rfl (fun ls hl => ?_)
  have hl : lv_has ls 3 [(2, .int (nI 0)), (1, .int (nI 0)), (0, .ref (b 0))] := hl
  suffices key : ∀ n i (ls : Array Slot), i ≤ 8 → 8 - i = n → lv_has ls 3 [(2, .int (nI i)), (1, .int (nI (yOpen (yT d) i))), (0, .ref (b 0))] → W p l e _ s m _ below meth c s.heap [] 0 0 (MQ below (vp_Si (fun o => o = nI (yOpen (yT d) 8))) _ s 0 0 (fun _ => False)) (F0 m 4 ls []) from key _ 0 ls (by omega) rfl hl
  clear hl
  intro n
  induction n with
  | zero =>
    intro i ls hi hn hl
    have hie : i = 8 := by omega
    subst hie
    refine lv_iload_n hx hb d_D_openTotal_4 rfl (lv_at hl 0 rfl) ?_
    refine lv_bipush (v := nI 8) hx hb d_D_openTotal_5 (by decide) ?_
    refine lv_icmp_ge hx hb d_D_openTotal_7 rfl (fun _ => ?_) (fun h9 => absurd (nI_le (Nat.le_refl 8) (by omega)) h9)
    refine lv_iload_n hx hb d_D_openTotal_31 rfl (lv_at hl 1 rfl) ?_
    exact W.iret (v := nI (yOpen (yT d) 8)) hx hb hr (fun t ht hW => ⟨_, rfl, rfl, ht⟩) (fun q h => nomatch h) d_D_openTotal_32
  | succ n ih =>
    intro i ls hi hn hl
    have hlt : i < 8 := by omega
    refine lv_iload_n hx hb d_D_openTotal_4 rfl (lv_at hl 0 rfl) ?_
    refine lv_bipush (v := nI 8) hx hb d_D_openTotal_5 (by decide) ?_
    refine lv_icmp_ge hx hb d_D_openTotal_7 rfl (fun h9 => absurd h9 (nI_ge hlt (by omega))) (fun _ => ?_)
    refine lv_aload_n hx hb d_D_openTotal_10 rfl (lv_at hl 2 rfl) ?_
    refine va_get (D := (dC, dI)) (ci := 1) (v := .ref (b 3)) (C := R_D) (T := F_D) (N := 5) hx hb hB in_D hown hK hP 0 rfl rfl 2 (by decide) (hB _ bw_58) (fun _ h9 => h9) rfl d_D_openTotal_11 ?_
    refine lv_iload_n hx hb d_D_openTotal_14 rfl (lv_at hl 0 rfl) ?_
    refine va_aldq hx hb hK hP 3 3 rfl rfl (pk_in i 8 (by omega)) d_D_openTotal_15 ?_
    refine W.eq (g2 := F0 m 16 ls [.ref (yA b i 0)]) (by show F0 _ _ _ (va_rf (some (yA b (nI i).toNatClampNeg 0)) :: _) = _; rw [cl_nI (by omega)]; first | done | rfl) ?_
    refine vp_callSi (va_Run.run (va_runV (As := []) (rest := []) ⟨hx, hb, hml, hown, hB⟩ (m_T_isOpen l dC dI k (yA b i) (yT d i)) (cwV 0 hB (BIG_V bw_127 bw_128 bw_129 bw_17 bw_130) rfl rfl rfl ⟨rfl, by decide, by decide, by decide +kernel⟩ ⟨Nat.le_of_ble_eq_true rfl, Nat.le_of_ble_eq_true rfl⟩) (tRc_pre _ (dW_t hlt hP) hK) rfl rfl hl.1 rfl (lv_room (Nat.le_of_ble_eq_true rfl)) d_D_openTotal_16 ⟨Nat.le_of_ble_eq_true rfl, Nat.le_of_ble_eq_true rfl⟩)) (fun r7 hr7 => ?_)
    subst hr7
    cases hh : xO (yT d i) with
    | true =>
      have hz : yOpen (yT d) (i + 1) = yOpen (yT d) i + 1 := by show yOpen (yT d) i + (if xO (yT d i) = true then 1 else 0) = _; rw [if_pos hh]
      refine lv_if_eq hx hb d_D_openTotal_19 rfl (fun h9 => absurd h9 (by decide)) (fun _ => ?_)
      refine lv_iinc (k := 1) (v := nI (yOpen (yT d) i + 1)) hx hb d_D_openTotal_22 hl rfl (nI_1 _) (by decide) rfl (fun ls hl => ?_)
      have hl : lv_has ls 3 [(1, .int (nI (yOpen (yT d) i + 1))), (2, .int (nI i)), (0, .ref (b 0))] := hl
      refine lv_iinc (k := 1) (v := nI (i + 1)) hx hb d_D_openTotal_25 hl rfl (nI_1 i) (by decide) rfl (fun ls hl => ?_)
      have hl : lv_has ls 3 [(2, .int (nI (i + 1))), (1, .int (nI (yOpen (yT d) i + 1))), (0, .ref (b 0))] := hl
      refine lv_goto hx hb d_D_openTotal_28 rfl ?_
      exact ih (i + 1) ls (by omega) (by omega) (by rw [hz]; exact hl)
    | false =>
      have hz : yOpen (yT d) (i + 1) = yOpen (yT d) i + 0 := by show yOpen (yT d) i + (if xO (yT d i) = true then 1 else 0) = _; rw [if_neg (by rw [hh]; decide)]
      refine lv_if_eq hx hb d_D_openTotal_19 rfl (fun _ => ?_) (fun h9 => absurd (by decide) h9)
      refine lv_iinc (k := 0) (v := nI (i + 1)) hx hb d_D_openTotal_25 hl rfl (nI_1 i) (by decide) rfl (fun ls hl => ?_)
      have hl : lv_has ls 3 [(2, .int (nI (i + 1))), (1, .int (nI (yOpen (yT d) i))), (0, .ref (b 0))] := hl
      refine lv_goto hx hb d_D_openTotal_28 rfl ?_
      exact ih (i + 1) ls (by omega) (by omega) (by rw [hz]; exact hl)
