/-! The nested class: the methods that write a value or call. -/
set_option maxHeartbeats 4000000 in
set_option maxRecDepth 100000 in
theorem m_T_putInPart (l : Launch) (dC : Nat → ClassId) (dI : Nat → Nat → Nat) (k : Nat → ClassId) (a : Nat → Nat) (sz : Nat) (z : xTS) (j i : Nat) (x : Int64) (hj : j < 5) (hi : i < 32) : Met l y_T_putInPart w_T_putInPart (rmx 0 0 0 0) (tPc dC dI k a sz z [.ref (a 0), .int (nI j), .int (nI i), .long x]) (va_Qv (fun u : xTS => u = tPut z j i x) (tB dC dI k a) (va_A (tW k a z) sz)) 0 0 (va_A (tW k a z) sz) := by
  refine Met.ofW (cc := c_T_putInPart) (maxL := 5) (ret := none) (by decide) rfl ?_
  intro p e s m args below meth c s₁ B hml hv
  obtain ⟨rfl, hsz, hP, hK, hD0⟩ := hv
  have hx := B.exec
  have hb := B.bytes
  have hr := B.returns
  have hts := atoms_spec (ws := w_T_putInPart) B.pre
  have hB : ∀ w ∈ BIG, w.before _ s = true := fun w h => hts w (List.mem_cons_of_mem _ h)
  have hown : s.vm.findClass R_T = some m.cls := findClass_of_methodNamed B.named
  have hlocks := B.notSynchronized
  have hl := lv_entry ([.ref (a 0), .int (nI j), .int (nI i), .long x]) (n := 5) (Nat.le_of_ble_eq_true rfl)
  rw [lg_entry_eq]
  generalize (lg_sl ([.ref (a 0), .int (nI j), .int (nI i), .long x]) ++ List.replicate (5 - (lg_sl ([.ref (a 0), .int (nI j), .int (nI i), .long x])).length) Slot.unset).toArray = ls at hl ⊢
  have hl : lv_has ls 5 [(0, .ref (a 0)), (1, .int (nI j)), (2, .int (nI i)), (3, .long x)] := hl
  subst hsz
  have hD := hD0.self (sz := s.heap.size)
  generalize hAe : va_A (tW k a z) s.heap.size = A at hD ⊢
  have hA : ∀ q : Nat, s.heap.size ≤ q → A q := fun q h => by rw [← hAe]; exact Or.inr h
  have hS : va_S A s.heap s.heap [] := va_S.rf
  refine lv_aload_n hx hb d_T_putInPart_0 rfl (lv_at hl 0 rfl) ?_
  refine va_get (D := (dC, dI)) (ci := 0) (v := .ref (a 1)) (C := R_T) (T := F_T) (N := 6) hx hb hB in_T hown hK hP 0 rfl rfl 4 (by decide) (hB _ bw_45) (fun _ h9 => h9) rfl d_T_putInPart_1 ?_
  refine lv_iload_n hx hb d_T_putInPart_4 rfl (lv_at hl 1 rfl) ?_
  refine lv_dup2_11 hx hb d_T_putInPart_5 rfl rfl ?_
  refine va_iald hx hb hK hP 1 0 rfl rfl (pk_in j 5 hj) d_T_putInPart_6 ?_
  refine W.eq (g2 := F0 m 7 ls [.int (xW z j), .int (nI j), .ref (a 1)]) (by rw [cl_nI (by omega)]) ?_
  refine lv_iconst (v := 1) hx hb d_T_putInPart_7 (by decide) ?_
  refine lv_iload_n hx hb d_T_putInPart_8 rfl (lv_at hl 2 rfl) ?_
  refine lv_ishl hx hb d_T_putInPart_9 ?_
  refine lv_ior hx hb d_T_putInPart_10 ?_
  refine W.eq (g2 := F0 m 11 ls [.int (xW z j ||| sB i), .int (nI j), .ref (a 1)]) rfl ?_
  refine va_iast hx hb hK hP hD hS 1 0 rfl rfl (pk_in j 5 hj) d_T_putInPart_11 (fun H locs hP hD hS => ?_)
  rw [cl_nI (by omega)] at hP hD
  have hP : va_P (dC, dI) vwC (tW k a (xO z, xS z, xR z, xP z, upd (xW z) j (xW z j ||| sB i), xV z)) H := hP
  have hD : va_D A (tW k a (xO z, xS z, xR z, xP z, upd (xW z) j (xW z j ||| sB i), xV z)) := hD
  refine lv_aload_n hx hb d_T_putInPart_12 rfl (lv_at hl 0 rfl) ?_
  refine va_get (D := (dC, dI)) (ci := 0) (v := .ref (a 2)) (C := R_T) (T := F_T) (N := 6) hx hb hB in_T hown hK hP 0 rfl rfl 5 (by decide) (hB _ bw_46) (fun _ h9 => h9) rfl d_T_putInPart_13 ?_
  refine lv_iload_n hx hb d_T_putInPart_16 rfl (lv_at hl 1 rfl) ?_
  refine xa_aald (r := a (3 + j)) hx hb hK hP 2 2 rfl rfl (pk_in j 5 hj) (by rw [cl_nI (by omega)]) d_T_putInPart_17 ?_
  refine lv_iload_n hx hb d_T_putInPart_18 rfl (lv_at hl 2 rfl) ?_
  refine lv_lload_n hx hb d_T_putInPart_19 rfl (lv_at hl 3 rfl) ?_
  refine va_last hx hb hK hP hD hS (3 + j) 1 (tW_row hj) rfl (pk_in i 32 hi) d_T_putInPart_20 (fun H locs hP hD hS => ?_)
  rw [cl_nI (by omega), tW_set hj] at hP
  have hP : va_P (dC, dI) vwC (tW k a (tPut z j i x)) H := hP
  exact W.vret hx hb hr (fun t ht hW => ⟨⟨_, rfl, rfl, by show va_P (dC, dI) vwC _ t.heap; rw [ht]; exact hP⟩, hS.F ht⟩) hS.2.2 d_T_putInPart_21
set_option maxHeartbeats 4000000 in
set_option maxRecDepth 100000 in
theorem m_T_putInLastPart (l : Launch) (dC : Nat → ClassId) (dI : Nat → Nat → Nat) (k : Nat → ClassId) (a : Nat → Nat) (sz : Nat) (z : xTS) (i : Nat) (x : Int64) (hi : i < 32) (h1 : 1 ≤ xP z) (h5 : xP z ≤ 5) : Met l y_T_putInLastPart w_T_putInLastPart (rmx 1 0 0 32) (tPc dC dI k a sz z [.ref (a 0), .int (nI i), .long x]) (va_Qv (fun u : xTS => u = tPut z (xP z - 1) i x) (tB dC dI k a) (va_A (tW k a z) sz)) 0 0 (va_A (tW k a z) sz) := by
  refine Met.ofW (cc := c_T_putInLastPart) (maxL := 4) (ret := none) (by decide) rfl ?_
  intro p e s m args below meth c s₁ B hml hv
  obtain ⟨rfl, hsz, hP, hK, hD0⟩ := hv
  have hx := B.exec
  have hb := B.bytes
  have hr := B.returns
  have hts := atoms_spec (ws := w_T_putInLastPart) B.pre
  have hB : ∀ w ∈ BIG, w.before _ s = true := fun w h => hts w (List.mem_cons_of_mem _ h)
  have hown : s.vm.findClass R_T = some m.cls := findClass_of_methodNamed B.named
  have hlocks := B.notSynchronized
  have hl := lv_entry ([.ref (a 0), .int (nI i), .long x]) (n := 4) (Nat.le_of_ble_eq_true rfl)
  rw [lg_entry_eq]
  generalize (lg_sl ([.ref (a 0), .int (nI i), .long x]) ++ List.replicate (4 - (lg_sl ([.ref (a 0), .int (nI i), .long x])).length) Slot.unset).toArray = ls at hl ⊢
  have hl : lv_has ls 4 [(0, .ref (a 0)), (1, .int (nI i)), (2, .long x)] := hl
  subst hsz
  have hD := hD0.self (sz := s.heap.size)
  generalize hAe : va_A (tW k a z) s.heap.size = A at hD ⊢
  have hA : ∀ q : Nat, s.heap.size ≤ q → A q := fun q h => by rw [← hAe]; exact Or.inr h
  have hS : va_S A s.heap s.heap [] := va_S.rf
  refine lv_aload_n hx hb d_T_putInLastPart_0 rfl (lv_at hl 0 rfl) ?_
  refine lv_aload_n hx hb d_T_putInLastPart_1 rfl (lv_at hl 0 rfl) ?_
  refine va_get (D := (dC, dI)) (ci := 0) (v := .int (nI (xP z))) (C := R_T) (T := F_T) (N := 6) hx hb hB in_T hown hK hP 0 rfl rfl 3 (by decide) (hB _ bw_44) (fun _ h9 => h9) rfl d_T_putInLastPart_2 ?_
  refine lv_iconst (v := nI 1) hx hb d_T_putInLastPart_5 (by decide) ?_
  refine lv_isub hx hb d_T_putInLastPart_6 ?_
  refine W.eq (g2 := F0 m 7 ls [.int (nI (xP z - 1)), .ref (a 0)]) (by show F0 m 7 ls [.int (nI (xP z) - nI 1), .ref (a 0)] = _; rw [pk_sub h1]) ?_
  refine lv_iload_n hx hb d_T_putInLastPart_7 rfl (lv_at hl 1 rfl) ?_
  refine lv_lload_n hx hb d_T_putInLastPart_8 rfl (lv_at hl 2 rfl) ?_
  have hFc := va_free (wc := tW k a z) hD hS hA [0, 1, 2, 3, 4, 5, 6, 7] rfl
  refine va_callv (va_runV (As := [.int (nI (xP z - 1)), .int (nI i), .long x]) (rest := []) ⟨hx, hb, hml, hown, hB⟩ (m_T_putInPart l dC dI k a _ z (xP z - 1) i x (by omega) hi) (cwV 3 hB (BIG_V bw_232 bw_233 bw_6 bw_17 bw_234) rfl rfl rfl ⟨rfl, by decide, by decide, by decide +kernel⟩ ⟨Nat.le_of_ble_eq_true rfl, Nat.le_of_ble_eq_true rfl⟩) (tPc_pre _ hP hK hD) rfl rfl hl.1 rfl (lv_room (Nat.le_of_ble_eq_true rfl)) d_T_putInLastPart_9 ⟨Nat.zero_le _, Nat.zero_le _⟩) hS (fun q _ h => hFc q h) hFc (fun u t H1 locs ht hvm hw hB1 hz1 hk1 hS => ?_)
  subst hw
  have hP : va_P (dC, dI) vwC (tW k a (tPut z (xP z - 1) i x)) H1 := by rw [← ht]; exact hB1
  have hD : va_D A (tW k a (tPut z (xP z - 1) i x)) := tW_D hD
  clear hFc hB1 hk1 hz1 ht hvm
  generalize H1 = H at hP hS ⊢
  exact W.vret hx hb hr (fun t ht hW => ⟨⟨_, rfl, rfl, by show va_P (dC, dI) vwC _ t.heap; rw [ht]; exact hP⟩, hS.F ht⟩) hS.2.2 d_T_putInLastPart_12
set_option maxHeartbeats 4000000 in
set_option maxRecDepth 100000 in
theorem m_T_mergeLastPart (l : Launch) (dC : Nat → ClassId) (dI : Nat → Nat → Nat) (k : Nat → ClassId) (a : Nat → Nat) (sz : Nat) (z : xTS) (h1 : 2 ≤ xP z) (h5 : xP z ≤ 5) : Met l y_T_mergeLastPart w_T_mergeLastPart (rmx 1 0 0 40) (tPc dC dI k a sz z [.ref (a 0)]) (va_Qv (fun u : xTS => u = tDrop (tMrg z (xP z - 2) 32)) (tB dC dI k a) (va_A (tW k a z) sz)) 0 0 (va_A (tW k a z) sz) := by
  refine Met.ofW (cc := c_T_mergeLastPart) (maxL := 3) (ret := none) (by decide) rfl ?_
  intro p e s m args below meth c s₁ B hml hv
  obtain ⟨rfl, hsz, hP, hK, hD0⟩ := hv
  have hx := B.exec
  have hb := B.bytes
  have hr := B.returns
  have hts := atoms_spec (ws := w_T_mergeLastPart) B.pre
  have hB : ∀ w ∈ BIG, w.before _ s = true := fun w h => hts w (List.mem_cons_of_mem _ h)
  have hown : s.vm.findClass R_T = some m.cls := findClass_of_methodNamed B.named
  have hlocks := B.notSynchronized
  have hl := lv_entry ([.ref (a 0)]) (n := 3) (Nat.le_of_ble_eq_true rfl)
  rw [lg_entry_eq]
  generalize (lg_sl ([.ref (a 0)]) ++ List.replicate (3 - (lg_sl ([.ref (a 0)])).length) Slot.unset).toArray = ls at hl ⊢
  have hl : lv_has ls 3 [(0, .ref (a 0))] := hl
  subst hsz
  have hD := hD0.self (sz := s.heap.size)
  generalize hAe : va_A (tW k a z) s.heap.size = A at hD ⊢
  have hA : ∀ q : Nat, s.heap.size ≤ q → A q := fun q h => by rw [← hAe]; exact Or.inr h
  have hS : va_S A s.heap s.heap [] := va_S.rf
  obtain ⟨b, hb2⟩ : ∃ b, xP z = b + 2 := ⟨xP z - 2, by omega⟩
  have hb3 : xP z - 2 = b := by omega
  rw [hb3]
  refine lv_aload_n hx hb d_T_mergeLastPart_0 rfl (lv_at hl 0 rfl) ?_
  refine va_get (D := (dC, dI)) (ci := 0) (v := .int (nI (xP z))) (C := R_T) (T := F_T) (N := 6) hx hb hB in_T hown hK hP 0 rfl rfl 3 (by decide) (hB _ bw_44) (fun _ h9 => h9) rfl d_T_mergeLastPart_1 ?_
  refine lv_iconst (v := nI 1) hx hb d_T_mergeLastPart_4 (by decide) ?_
  refine lv_isub hx hb d_T_mergeLastPart_5 ?_
  refine W.eq (g2 := F0 m 6 ls [.int (nI (b + 1))]) (by show F0 m 6 ls [.int (nI (xP z) - nI 1)] = _; rw [pk_sub (by omega), hb2]; rfl) ?_
  refine lv_istore_n hx hb d_T_mergeLastPart_6 rfl hl (by decide) rfl (fun ls hl => ?_)
  have hl : lv_has ls 3 [(1, .int (nI (b + 1))), (0, .ref (a 0))] := hl
  refine lv_iconst (v := nI 0) hx hb d_T_mergeLastPart_7 (by decide) ?_
  refine lv_istore_n hx hb d_T_mergeLastPart_8 rfl hl (by decide) rfl (fun ls hl => ?_)
  have hl : lv_has ls 3 [(2, .int (nI 0)), (1, .int (nI (b + 1))), (0, .ref (a 0))] := hl
  have hP : va_P (dC, dI) vwC (tW k a (tMrg z b 0)) s.heap := hP
  have hD : va_D A (tW k a (tMrg z b 0)) := hD
  suffices key : ∀ n i (H : Heap) (locs : List Loc) (ls : Array Slot), i ≤ 32 → 32 - i = n → lv_has ls 3 [(2, .int (nI i)), (1, .int (nI (b + 1))), (0, .ref (a 0))] → va_P (dC, dI) vwC (tW k a (tMrg z b i)) H → va_D A (tW k a (tMrg z b i)) → va_S A s.heap H locs → W p l e _ s m _ below meth c H locs 0 0 (MQ below (va_Qv (fun u : xTS => u = tDrop (tMrg z b 32)) (tB dC dI k a) A) _ s 0 0 A) (F0 m 9 ls []) from key _ 0 _ _ ls (by omega) rfl hl hP hD hS
  intro n
  induction n with
  | zero =>
    intro i H locs ls hi hn hl hP hD hS
    have hie : i = 32 := by omega
    subst hie
    have hpp : xP (tMrg z b 32) = b + 2 := by rw [(mrg_fix (z := z) (p := b) 32).2.2.2]; exact hb2
    refine lv_iload_n hx hb d_T_mergeLastPart_9 rfl (lv_at hl 0 rfl) ?_
    refine lv_bipush (v := nI 32) hx hb d_T_mergeLastPart_10 (by decide) ?_
    refine lv_icmp_ge hx hb d_T_mergeLastPart_12 rfl (fun _ => ?_) (fun h9 => absurd (nI_le (Nat.le_refl 32) (by omega)) h9)
    refine lv_aload_n hx hb d_T_mergeLastPart_50 rfl (lv_at hl 2 rfl) ?_
    have hFc := va_free (wc := tW k a (tMrg z b 32)) hD hS hA [0, 1, 2, 3, 4, 5, 6, 7] rfl
    refine va_callv (va_runV (As := []) (rest := []) ⟨hx, hb, hml, hown, hB⟩ (m_T_dropLastPart l dC dI k a _ (tMrg z b 32) (by omega)) (cwV 0 hB (BIG_V bw_275 bw_261 bw_262 bw_17 bw_263) rfl rfl rfl ⟨rfl, by decide, by decide, by decide +kernel⟩ ⟨Nat.le_of_ble_eq_true rfl, Nat.le_of_ble_eq_true rfl⟩) (tPc_pre _ hP hK hD) rfl rfl hl.1 rfl (lv_room (Nat.le_of_ble_eq_true rfl)) d_T_mergeLastPart_51 ⟨Nat.zero_le _, Nat.zero_le _⟩) hS (fun q _ h => hFc q h) hFc (fun u t H1 locs ht hvm hw hB1 hz1 hk1 hS => ?_)
    subst hw
    have hP : va_P (dC, dI) vwC (tW k a (tDrop (tMrg z b 32))) H1 := by rw [← ht]; exact hB1
    have hD : va_D A (tW k a (tDrop (tMrg z b 32))) := tW_D hD
    clear hFc hB1 hk1 hz1 ht hvm
    generalize H1 = H at hP hS ⊢
    exact W.vret hx hb hr (fun t ht hW => ⟨⟨_, rfl, rfl, by show va_P (dC, dI) vwC _ t.heap; rw [ht]; exact hP⟩, hS.F ht⟩) hS.2.2 d_T_mergeLastPart_54
  | succ n ih =>
    intro i H locs ls hi hn hl hP hD hS
    have hlt : i < 32 := by omega
    obtain ⟨mw, mv⟩ := mrg_at (z := z) (p := b) i (by omega)
    refine lv_iload_n hx hb d_T_mergeLastPart_9 rfl (lv_at hl 0 rfl) ?_
    refine lv_bipush (v := nI 32) hx hb d_T_mergeLastPart_10 (by decide) ?_
    refine lv_icmp_ge hx hb d_T_mergeLastPart_12 rfl (fun h9 => absurd h9 (nI_ge hlt (by omega))) (fun _ => ?_)
    refine lv_aload_n hx hb d_T_mergeLastPart_15 rfl (lv_at hl 2 rfl) ?_
    refine va_get (D := (dC, dI)) (ci := 0) (v := .ref (a 1)) (C := R_T) (T := F_T) (N := 6) hx hb hB in_T hown hK hP 0 rfl rfl 4 (by decide) (hB _ bw_45) (fun _ h9 => h9) rfl d_T_mergeLastPart_16 ?_
    refine lv_iload_n hx hb d_T_mergeLastPart_19 rfl (lv_at hl 1 rfl) ?_
    refine va_iald hx hb hK hP 1 0 rfl rfl (pk_in (b + 1) 5 (by omega)) d_T_mergeLastPart_20 ?_
    refine W.eq (g2 := F0 m 21 ls [.int (xW (tMrg z b i) (b + 1))]) (by rw [cl_nI (by omega)]) ?_
    refine lv_iload_n hx hb d_T_mergeLastPart_21 rfl (lv_at hl 0 rfl) ?_
    refine vp_callSi (va_Run.run (va_runS (As := [.int (xW (tMrg z b i) (b + 1)), .int (nI i)]) (rest := []) ⟨hx, hb, hml, hown, hB⟩ (m_T_holds l (xW (tMrg z b i) (b + 1)) i hlt) (va_cwS 2 hB (BIG_SS bw_185 bw_186 bw_17 bw_187) rfl rfl rfl ⟨by decide, by decide, by decide +kernel⟩ ⟨Nat.le_of_ble_eq_true rfl, Nat.le_of_ble_eq_true rfl⟩) preEq rfl rfl hl.1 rfl (lv_room (Nat.le_of_ble_eq_true rfl)) d_T_mergeLastPart_22 ⟨Nat.zero_le _, Nat.zero_le _⟩)) (fun r7 hr7 => ?_)
    subst hr7
    refine lv_if_eq hx hb d_T_mergeLastPart_25 rfl (fun h9 => ?_) (fun h9 => ?_)
    · have h8 : bt (xW (tMrg z b i) (b + 1)) i = false := bI_ne.mp h9
      have he : tMrg z b (i + 1) = tMrg z b i := by show (if _ then _ else _) = _; rw [h8, if_neg (by decide)]
      refine lv_iinc (k := 0) (v := nI (i + 1)) hx hb d_T_mergeLastPart_44 hl rfl (nI_1 i) (by decide) rfl (fun ls hl => ?_)
      have hl : lv_has ls 3 [(2, .int (nI (i + 1))), (1, .int (nI (b + 1))), (0, .ref (a 0))] := hl
      refine lv_goto hx hb d_T_mergeLastPart_47 rfl ?_
      exact ih (i + 1) H locs ls (by omega) (by omega) hl (by rw [he]; exact hP) (by rw [he]; exact hD) hS
    · have h8 : bt (xW (tMrg z b i) (b + 1)) i = true := by cases hc : bt (xW (tMrg z b i) (b + 1)) i; exact absurd (bI_ne.mpr hc) h9; rfl
      have he : tMrg z b (i + 1) = tPut (tMrg z b i) b i (xV (tMrg z b i) (b + 1) i) := by show (if _ then _ else _) = _; rw [h8, if_pos rfl]
      refine lv_aload_n hx hb d_T_mergeLastPart_28 rfl (lv_at hl 2 rfl) ?_
      refine lv_iload_n hx hb d_T_mergeLastPart_29 rfl (lv_at hl 1 rfl) ?_
      refine lv_iconst (v := nI 1) hx hb d_T_mergeLastPart_30 (by decide) ?_
      refine lv_isub hx hb d_T_mergeLastPart_31 ?_
      refine W.eq (g2 := F0 m 32 ls [.int (nI b), .ref (a 0)]) (by show F0 m 32 ls [.int (nI (b + 1) - nI 1), .ref (a 0)] = _; rw [pk_sub (by omega)]; rfl) ?_
      refine lv_iload_n hx hb d_T_mergeLastPart_32 rfl (lv_at hl 0 rfl) ?_
      refine lv_aload_n hx hb d_T_mergeLastPart_33 rfl (lv_at hl 2 rfl) ?_
      refine va_get (D := (dC, dI)) (ci := 0) (v := .ref (a 2)) (C := R_T) (T := F_T) (N := 6) hx hb hB in_T hown hK hP 0 rfl rfl 5 (by decide) (hB _ bw_46) (fun _ h9 => h9) rfl d_T_mergeLastPart_34 ?_
      refine lv_iload_n hx hb d_T_mergeLastPart_37 rfl (lv_at hl 1 rfl) ?_
      refine xa_aald (r := a (3 + (b + 1))) hx hb hK hP 2 2 rfl rfl (pk_in (b + 1) 5 (by omega)) (by rw [cl_nI (by omega)]) d_T_mergeLastPart_38 ?_
      refine lv_iload_n hx hb d_T_mergeLastPart_39 rfl (lv_at hl 0 rfl) ?_
      refine va_lald hx hb hK hP (3 + (b + 1)) 1 (tW_row (by omega)) rfl (pk_in i 32 hlt) d_T_mergeLastPart_40 ?_
      refine W.eq (g2 := F0 m 41 ls [.long (xV (tMrg z b i) (b + 1) i), .int (nI i), .int (nI b), .ref (a 0)]) (by rw [cl_nI (by omega)]) ?_
      have hFc := va_free (wc := tW k a (tMrg z b i)) hD hS hA [0, 1, 2, 3, 4, 5, 6, 7] rfl
      refine va_callv (va_runV (As := [.int (nI b), .int (nI i), .long (xV (tMrg z b i) (b + 1) i)]) (rest := []) ⟨hx, hb, hml, hown, hB⟩ (m_T_putInPart l dC dI k a _ (tMrg z b i) b i (xV (tMrg z b i) (b + 1) i) (by omega) hlt) (cwV 3 hB (BIG_V bw_232 bw_233 bw_6 bw_17 bw_234) rfl rfl rfl ⟨rfl, by decide, by decide, by decide +kernel⟩ ⟨Nat.le_of_ble_eq_true rfl, Nat.le_of_ble_eq_true rfl⟩) (tPc_pre _ hP hK hD) rfl rfl hl.1 rfl (lv_room (Nat.le_of_ble_eq_true rfl)) d_T_mergeLastPart_41 ⟨Nat.zero_le _, Nat.zero_le _⟩) hS (fun q _ h => hFc q h) hFc (fun u t H1 locs ht hvm hw hB1 hz1 hk1 hS => ?_)
      subst hw
      have hP : va_P (dC, dI) vwC (tW k a (tPut (tMrg z b i) b i (xV (tMrg z b i) (b + 1) i))) H1 := by rw [← ht]; exact hB1
      have hD : va_D A (tW k a (tPut (tMrg z b i) b i (xV (tMrg z b i) (b + 1) i))) := tW_D hD
      clear hFc hB1 hk1 hz1 ht hvm
      generalize H1 = H at hP hS ⊢
      refine lv_iinc (k := 0) (v := nI (i + 1)) hx hb d_T_mergeLastPart_44 hl rfl (nI_1 i) (by decide) rfl (fun ls hl => ?_)
      have hl : lv_has ls 3 [(2, .int (nI (i + 1))), (1, .int (nI (b + 1))), (0, .ref (a 0))] := hl
      refine lv_goto hx hb d_T_mergeLastPart_47 rfl ?_
      exact ih (i + 1) H locs ls (by omega) (by omega) hl (by rw [he]; exact hP) (by rw [he]; exact hD) hS
