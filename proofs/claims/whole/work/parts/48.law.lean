/-! The law: the loop, and the start. -/
set_option maxHeartbeats 4000000 in
set_option maxRecDepth 100000 in
theorem law_loop {p : Program} {e : Env} {s : State} {m : MethodId} {below : List Frame} {meth : Method} {c : Code} (l : Launch) {scr L : Nat} {xs : Nat → Int32} (hx : p.tables.exec = Jvm.exec) (hb : c.code = code) (hml : c.maxLocals = 8) (hown : s.vm.findClass R_L = some m.cls) (hB : ∀ w ∈ BIG, w.before #[Value.ref scr] s = true) (hX : va_X scr L xs s s.heap) (hbl : scr < s.heap.size) {dC : Nat → ClassId} {dI : Nat → Nat → Nat} {k : Nat → ClassId} (hK : va_K (dC, dI) vwC (kT k) s) (hTh : xTh s) (hCt : xCt s) (htr : l.stackTraces = false) (hr : meth.sig.returnType = ret) (hlocks : meth.locks = false) {b : Nat → Nat} {o : Nat} {a : Nat → Nat} (hL : L ≤ 2560) : ∀ (f it : Nat) (H : Heap) (locs : List Loc) (ls : Array Slot) (cells slots : Nat) (d : xDS) (g : Nat → Int64) (r : xRS), it ≤ 512 → 512 - it = f → cells = 78 + 5 * it → slots = 4649 + 30 * it → lv_has ls 8 [(4, .int (nI (5 * it))), (3, .ref o), (2, .ref (a 0)), (1, .ref (b 0)), (0, .ref scr)] → va_P (dC, dI) vwC (qW k b o a d g r) H → va_D (xA s) (qW k b o a d g r) → va_S (xA s) s.heap H locs → Sim (fun _ => it) d r → W p l e room_1 s m #[Value.ref scr] below meth c H locs cells slots (lw_Z below #[Value.ref scr] s) (F0 m 23 ls []) := by
  intro f
  induction f with
  | zero =>
    intro it H locs ls cells slots d g r hit hf hce hsl hl hP hD hS hSim
    refine lv_iload hx hb d_W_23 (lv_at hl 0 rfl) ?_
    refine lv_aload_n hx hb d_W_25 rfl (lv_at hl 4 rfl) ?_
    refine va_slen hx hb hX hbl (Nat.not_le.mpr hbl) hS d_W_26 ?_
    refine W.eq (g2 := F0 m 27 ls [.int (nI L), .int (nI (5 * it))]) (rfl) ?_
    refine lv_iconst (v := nI 5) hx hb d_W_27 (by decide) ?_
    refine lv_isub hx hb d_W_28 ?_
    refine lv_icmp_gt hx hb d_W_29 rfl (fun _ => ?_) (fun h9 => absurd ((lp_gt (by omega) hL).mpr (by omega)) h9)
    refine lv_iconst (v := 1) hx hb d_W_847 (by decide) ?_
    exact w_up (c2 := 601024) (s2 := 7293034) (by omega) (by omega) (va_forget hS.2.2 (lw_ret hx hb hr hlocks d_W_848))
  | succ f ih =>
    intro it H locs ls cells slots d g r hit hf hce hsl hl hP hD hS hSim
    refine lv_iload hx hb d_W_23 (lv_at hl 0 rfl) ?_
    refine lv_aload_n hx hb d_W_25 rfl (lv_at hl 4 rfl) ?_
    refine va_slen hx hb hX hbl (Nat.not_le.mpr hbl) hS d_W_26 ?_
    refine W.eq (g2 := F0 m 27 ls [.int (nI L), .int (nI (5 * it))]) (rfl) ?_
    refine lv_iconst (v := nI 5) hx hb d_W_27 (by decide) ?_
    refine lv_isub hx hb d_W_28 ?_
    refine lv_icmp_gt hx hb d_W_29 rfl (fun _ => ?_) (fun h9 => ?_)
    · skip
      refine lv_iconst (v := 1) hx hb d_W_847 (by decide) ?_
      exact w_up (c2 := 601024) (s2 := 7293034) (by omega) (by omega) (va_forget hS.2.2 (lw_ret hx hb hr hlocks d_W_848))
    · have hi : 5 * it + 5 ≤ L := Nat.le_of_not_lt (fun q => h9 ((lp_gt (by omega) hL).mpr q))
      have hlt : it < 512 := by omega
      have back : ∀ (H : Heap) (locs : List Loc) (ls : Array Slot) (d : xDS) (g : Nat → Int64) (r : xRS), lv_has ls 8 [(4, .int (nI (5 * it))), (3, .ref o), (2, .ref (a 0)), (1, .ref (b 0)), (0, .ref scr)] → va_P (dC, dI) vwC (qW k b o a d g r) H → va_D (xA s) (qW k b o a d g r) → va_S (xA s) s.heap H locs → Sim (fun _ => it + 1) d r → W p l e room_1 s m #[Value.ref scr] below meth c H locs (cells + 5) (slots + 30) (lw_Z below #[Value.ref scr] s) (F0 m 841 ls []) := by
        intro H locs ls d g r hl hP hD hS hSim
        refine lv_iinc (k := 0) (v := nI (5 * (it + 1))) hx hb d_W_841 hl rfl (by rw [show Int32.ofInt 5 = nI 5 by decide, nI_add, show 5 * it + 5 = 5 * (it + 1) by omega]) (by decide) rfl (fun ls hl => ?_)
        refine lv_goto hx hb d_W_844 rfl ?_
        exact ih (it + 1) H locs ls _ _ d g r (by omega) (by omega) (by omega) (by omega) hl hP hD hS hSim
      refine lv_aload_n hx hb d_W_32 rfl (lv_at hl 4 rfl) ?_
      refine lv_iload hx hb d_W_33 (lv_at hl 0 rfl) ?_
      refine va_sld hx hb hX hbl (Nat.not_le.mpr hbl) hS (pk_in (5 * it) L (by omega)) d_W_35 ?_
      refine lv_bipush (v := nI 15) hx hb d_W_36 (by decide) ?_
      refine lv_iand hx hb d_W_38 ?_
      obtain ⟨j, hj, hej⟩ := pk_andE (xs (nI (5 * it)).toNatClampNeg) (m := nI 15) 4 (by decide)
      refine W.eq (g2 := F0 m 39 ls [.int (nI j)]) (by rw [hej]) ?_
      have hj16 : j < 16 := hj
      rcases (show j = 0 ∨ j = 1 ∨ j = 2 ∨ j = 3 ∨ j = 4 ∨ j = 5 ∨ j = 6 ∨ j = 7 ∨ j = 8 ∨ j = 9 ∨ j = 10 ∨ j = 11 ∨ j = 12 ∨ j = 13 ∨ j = 14 ∨ j = 15 by omega) with rfl | rfl | rfl | rfl | rfl | rfl | rfl | rfl | rfl | rfl | rfl | rfl | rfl | rfl | rfl | rfl
      · refine lv_tableIn (tgt := 104) hx hb d_W_39 (by decide) (by decide) rfl rfl ?_
        exact arm_0 l hx hb hml hown hB hX hbl hK hTh hCt htr hL hi (by omega) (by omega) (by omega) hl hP hD hS hSim back
      · refine lv_tableIn (tgt := 140) hx hb d_W_39 (by decide) (by decide) rfl rfl ?_
        exact arm_1 l hx hb hml hown hB hX hbl hK hTh hCt htr hL hi (by omega) (by omega) (by omega) hl hP hD hS hSim back
      · refine lv_tableIn (tgt := 207) hx hb d_W_39 (by decide) (by decide) rfl rfl ?_
        exact arm_2 l hx hb hml hown hB hX hbl hK hTh hCt htr hL hi (by omega) (by omega) (by omega) hl hP hD hS hSim back
      · refine lv_tableIn (tgt := 299) hx hb d_W_39 (by decide) (by decide) rfl rfl ?_
        exact arm_3 l hx hb hml hown hB hX hbl hK hTh hCt htr hL hi (by omega) (by omega) (by omega) hl hP hD hS hSim back
      · refine lv_tableIn (tgt := 355) hx hb d_W_39 (by decide) (by decide) rfl rfl ?_
        exact arm_4 l hx hb hml hown hB hX hbl hK hTh hCt htr hL hi (by omega) (by omega) (by omega) hl hP hD hS hSim back
      · refine lv_tableIn (tgt := 391) hx hb d_W_39 (by decide) (by decide) rfl rfl ?_
        exact arm_5 l hx hb hml hown hB hX hbl hK hTh hCt htr hL hi (by omega) (by omega) (by omega) hl hP hD hS hSim back
      · refine lv_tableIn (tgt := 427) hx hb d_W_39 (by decide) (by decide) rfl rfl ?_
        exact arm_6 l hx hb hml hown hB hX hbl hK hTh hCt htr hL hi (by omega) (by omega) (by omega) hl hP hD hS hSim back
      · refine lv_tableIn (tgt := 490) hx hb d_W_39 (by decide) (by decide) rfl rfl ?_
        exact arm_7 l hx hb hml hown hB hX hbl hK hTh hCt htr hL hi (by omega) (by omega) (by omega) hl hP hD hS hSim back
      · refine lv_tableIn (tgt := 526) hx hb d_W_39 (by decide) (by decide) rfl rfl ?_
        exact arm_8 l hx hb hml hown hB hX hbl hK hTh hCt htr hL hi (by omega) (by omega) (by omega) hl hP hD hS hSim back
      · refine lv_tableIn (tgt := 606) hx hb d_W_39 (by decide) (by decide) rfl rfl ?_
        exact arm_9 l hx hb hml hown hB hX hbl hK hTh hCt htr hL hi (by omega) (by omega) (by omega) hl hP hD hS hSim back
      · refine lv_tableIn (tgt := 661) hx hb d_W_39 (by decide) (by decide) rfl rfl ?_
        exact arm_10 l hx hb hml hown hB hX hbl hK hTh hCt htr hL hi (by omega) (by omega) (by omega) hl hP hD hS hSim back
      · refine lv_tableIn (tgt := 717) hx hb d_W_39 (by decide) (by decide) rfl rfl ?_
        exact arm_11 l hx hb hml hown hB hX hbl hK hTh hCt htr hL hi (by omega) (by omega) (by omega) hl hP hD hS hSim back
      · refine lv_tableIn (tgt := 785) hx hb d_W_39 (by decide) (by decide) rfl rfl ?_
        exact arm_12 l hx hb hml hown hB hX hbl hK hTh hCt htr hL hi (by omega) (by omega) (by omega) hl hP hD hS hSim back
      · refine lv_tableOut (tgt := 841) hx hb d_W_39 (by decide) rfl ?_
        exact w_up (by omega) (by omega) (back H locs ls d g r hl hP hD hS (Sim.wide hSim (fun _ _ => Nat.le_succ _)))
      · refine lv_tableOut (tgt := 841) hx hb d_W_39 (by decide) rfl ?_
        exact w_up (by omega) (by omega) (back H locs ls d g r hl hP hD hS (Sim.wide hSim (fun _ _ => Nat.le_succ _)))
      · refine lv_tableOut (tgt := 841) hx hb d_W_39 (by decide) rfl ?_
        exact w_up (by omega) (by omega) (back H locs ls d g r hl hP hD hS (Sim.wide hSim (fun _ _ => Nat.le_succ _)))
theorem va_P_rot {D : va_G} {cl : List vw_C} {w : va_W} {x : Nat × va_E} {H : Heap} (h : va_P D cl (w ++ [x]) H) : va_P D cl (x :: w) H := fun i q hq => by
  cases i with
  | zero => exact va_P_r h 0 q hq
  | succ i => exact va_P_l h i q hq
theorem va_D_rot {A : Nat → Prop} {w : va_W} {x : Nat × va_E} (h : va_D A (w ++ [x])) : va_D A (x :: w) := by
  have e : ∀ (i : Nat) (q : Nat × va_E), (x :: w)[i]? = some q → (w ++ [x])[if i = 0 then w.length else i - 1]? = some q ∧ (i ≠ 0 → i - 1 < w.length) := fun i q hq => by
    cases i with
    | zero => exact ⟨by rw [if_pos rfl, List.getElem?_append_right (Nat.le_refl _), Nat.sub_self]; exact hq, fun h => absurd rfl h⟩
    | succ i =>
      have hw : w[i]? = some q := hq
      have hl := (List.getElem?_eq_some_iff.mp hw).1
      exact ⟨by rw [if_neg (by omega), show i + 1 - 1 = i by omega, List.getElem?_append_left hl]; exact hw, fun _ => by omega⟩
  refine ⟨fun i j p q hp hq hpq => ?_, fun i q hq => h.2 _ q (e i q hq).1⟩
  have h1 := h.1 _ _ p q (e i p hp).1 (e j q hq).1 hpq
  have h2 := (e i p hp).2
  have h3 := (e j q hq).2
  by_cases ci : i = 0
  · by_cases cj : j = 0
    · omega
    · rw [if_pos ci, if_neg cj] at h1; have := h3 cj; omega
  · by_cases cj : j = 0
    · rw [if_neg ci, if_pos cj] at h1; have := h2 ci; omega
    · rw [if_neg ci, if_neg cj] at h1; omega
theorem di_pre {dC : Nat → ClassId} {dI : Nat → Nat → Nat} {k : Nat → ClassId} {s : State} {H : Heap} {w : va_W} {q : Nat} (hP : va_P (dC, dI) vwC (w ++ [(q, .inr (1, fsD))]) H) (hK : va_K (dC, dI) vwC (kT k) s) (hAO : xAO k s) (hOv : va_AO R_T s) (hNs : va_Nw xNest s) : PreS s H (diPc dC dI k q H.size) [.ref q] := by
  have hPn : va_P (dC, dI) vwC [(q, .inr (1, fsD))] H := va_P_r hP
  have hDn : va_D (fun _ => True) [(q, (.inr (1, fsD) : va_E))] := ⟨fun i j x y hx hy _ => by
    have h1 : i < 1 := (List.getElem?_eq_some_iff.mp hx).1
    have h2 : j < 1 := (List.getElem?_eq_some_iff.mp hy).1
    omega, fun _ _ _ => trivial⟩
  exact ⟨fun av U g mk z => by obtain ⟨z0, z1, zP, zK, zD, zO, zV, zN⟩ := z; exact ⟨z0, z1, zP, va_K.moved (u := U) (U := U.calling g mk av) (Vm.Alike.refl U.vm) zK, zD, xAO.moved (U := U.calling g mk av) (Vm.Alike.refl U.vm) zO, va_AO.moved (U := U.calling g mk av) (Vm.Alike.refl U.vm) zV, va_Nw.same (U := U.calling g mk av) rfl rfl zN⟩, fun U hU hW => ⟨rfl, by rw [hU], by rw [hU]; exact hPn, va_K.moved hW.alike hK, hDn, hAO.moved hW.alike, hOv.moved hW.alike, va_Nw.warmM hW hNs⟩⟩
theorem mi_pre {dC : Nat → ClassId} {dI : Nat → Nat → Nat} {k : Nat → ClassId} {s : State} {H : Heap} {w : va_W} {q : Nat} (hP : va_P (dC, dI) vwC (w ++ [(q, .inr (2, fsM))]) H) (hK : va_K (dC, dI) vwC (kT k) s) : PreS s H (iPc dC dI k 2 fsM q H.size) [.ref q] := by
  have hPn : va_P (dC, dI) vwC [(q, .inr (2, fsM))] H := va_P_r hP
  have hDn : va_D (fun _ => True) [(q, (.inr (2, fsM) : va_E))] := ⟨fun i j x y hx hy _ => by
    have h1 : i < 1 := (List.getElem?_eq_some_iff.mp hx).1
    have h2 : j < 1 := (List.getElem?_eq_some_iff.mp hy).1
    omega, fun _ _ _ => trivial⟩
  exact ⟨fun av U g mk z => by obtain ⟨z0, z1, zP, zK, zD⟩ := z; exact ⟨z0, z1, zP, va_K.moved (u := U) (U := U.calling g mk av) (Vm.Alike.refl U.vm) zK, zD⟩, fun U hU hW => ⟨rfl, by rw [hU], by rw [hU]; exact hPn, va_K.moved hW.alike hK, hDn⟩⟩
set_option maxHeartbeats 4000000 in
set_option maxRecDepth 100000 in
theorem whole_start {p : Program} {e : Env} {s : State} {m : MethodId} {below : List Frame} {meth : Method} {c : Code} (l : Launch) (htr : l.stackTraces = false) {b L : Nat} {xs : Nat → Int32} (hL : L ≤ 2560) (C0 : lw_At p s m meth c b L xs) : W p l e room_1 s m #[Value.ref b] below meth c s.heap [] 0 0 (lw_Z below #[Value.ref b] s) (entryFrame m ([Value.ref b] : List Value).toArray 8) := by
  obtain ⟨hx, hb, hr, hml, hown, hts, hX, hbl, hlocks, hgv⟩ := C0
  have hfl := flat_of_before _ hgv
  have hB : ∀ w ∈ BIG, w.before #[Value.ref b] s = true := fun w h => hts w (BIG_in w h)
  have hTh := st_Th hts hfl
  have hCt := st_Ct hts hfl
  have hOv := st_AO hts
  have hNs := st_Ns hts
  obtain ⟨dC, dI, k, hK, hAO⟩ := st_K hts
  have hown : s.vm.findClass R_L = some m.cls := hown
  have hl := lv_entry ([.ref b]) (n := 8) (Nat.le_of_ble_eq_true rfl)
  rw [lg_entry_eq]
  generalize (lg_sl ([.ref b]) ++ List.replicate (8 - (lg_sl ([.ref b])).length) Slot.unset).toArray = ls at hl ⊢
  have hl : lv_has ls 8 [(0, .ref b)] := hl
  have hS : va_S (xA s) s.heap s.heap [] := va_S.rf
  have hA : ∀ q : Nat, s.heap.size ≤ q → xA s q := fun _ h => h
  have hP : va_P (dC, dI) vwC [] s.heap := fun i q hq => by cases hq
  have hD : va_D (xA s) [] := ⟨fun i j x y h1 _ _ => (by cases h1), fun i x h1 => (by cases h1)⟩
  refine va_new (C := R_D) (T := F_D) (N := 5) (ci := 1) (fs := fsD) hx hb hB in_D tf_D ty_D hown (hB _ bw_27) (hB _ bw_28) (hB _ bw_16) hK hP hD hS hA rfl (by decide) (Nat.le_of_ble_eq_true rfl) (Nat.le_of_ble_eq_true rfl) d_W_0 (fun q H hP hD hS => ?_)
  refine lv_dup hx hb d_W_3 rfl ?_
  have hFc := xw_free (H := H) hD hA hS.1
  refine va_callv (va_runI (As := []) (rest := [.ref q]) ⟨hx, hb, hml, hown, hB⟩ (m_D_init l dC dI k q H.size) (cwI 0 hB (BIG_good bw_31) rfl rfl rfl (hB _ bw_16) (hB _ bw_29) (hB _ bw_30) rfl ⟨by decide, by decide, by decide +kernel⟩ ⟨Nat.le_of_ble_eq_true rfl, Nat.le_of_ble_eq_true rfl⟩) (di_pre hP hK hAO hOv hNs) rfl rfl hl.1 rfl (lv_room (Nat.le_of_ble_eq_true rfl)) d_W_4 ⟨Nat.le_of_ble_eq_true rfl, Nat.le_of_ble_eq_true rfl⟩) hS (fun x _ h => hFc x h) hFc (fun bb t H1 locs ht hvm hw hB1 hz1 hk1 hS2 => ?_)
  obtain ⟨hv0, hDv⟩ := hw
  obtain ⟨hP9, hD9⟩ := xw_join (v := dW k bb yNew) hP hD hA hS.1 (by rw [← ht]; exact hB1) hDv hk1
  clear hP hD
  clear hFc hB1 hk1 hz1 ht hvm hDv hS
  have hS := hS2
  clear hS2
  generalize H1 = H at hP9 hS ⊢
  have hP : va_P (dC, dI) vwC (dW k bb yNew) H := hP9
  have hD : va_D (xA s) (dW k bb yNew) := hD9
  clear hP9 hD9
  subst hv0
  refine W.eq (g2 := F0 m 7 ls [.ref (bb 0)]) (rfl) ?_
  refine lv_astore_n hx hb d_W_7 rfl hl (by decide) rfl (fun ls hl => ?_)
  have hl : lv_has ls 8 [(1, .ref (bb 0)), (0, .ref b)] := hl
  refine va_new (C := R_M) (T := F_M) (N := 11) (ci := 2) (fs := fsM) hx hb hB in_M tf_M ty_M hown (hB _ bw_349) (hB _ bw_350) (hB _ bw_18) hK hP hD hS hA rfl (by decide) (Nat.le_of_ble_eq_true rfl) (Nat.le_of_ble_eq_true rfl) d_W_8 (fun q2 H hP hD hS => ?_)
  refine lv_dup hx hb d_W_11 rfl ?_
  have hFc := xw_free (H := H) hD hA hS.1
  refine va_callv (va_runI (As := []) (rest := [.ref q2]) ⟨hx, hb, hml, hown, hB⟩ (m_M_init l dC dI k q2 H.size) (cwI 0 hB (BIG_good bw_353) rfl rfl rfl (hB _ bw_18) (hB _ bw_351) (hB _ bw_352) rfl ⟨by decide, by decide, by decide +kernel⟩ ⟨Nat.le_of_ble_eq_true rfl, Nat.le_of_ble_eq_true rfl⟩) (mi_pre hP hK) rfl rfl hl.1 rfl (lv_room (Nat.le_of_ble_eq_true rfl)) d_W_12 ⟨Nat.le_of_ble_eq_true rfl, Nat.le_of_ble_eq_true rfl⟩) hS (fun x _ h => hFc x h) hFc (fun aa t H1 locs ht hvm hw hB1 hz1 hk1 hS2 => ?_)
  obtain ⟨hv0, hDv⟩ := hw
  obtain ⟨hP9, hD9⟩ := xw_join (v := mW k aa zNew) hP hD hA hS.1 (by rw [← ht]; exact hB1) hDv hk1
  clear hP hD
  clear hFc hB1 hk1 hz1 ht hvm hDv hS
  have hS := hS2
  clear hS2
  generalize H1 = H at hP9 hS ⊢
  have hP : va_P (dC, dI) vwC (dW k bb yNew ++ mW k aa zNew) H := hP9
  have hD : va_D (xA s) (dW k bb yNew ++ mW k aa zNew) := hD9
  clear hP9 hD9
  subst hv0
  refine W.eq (g2 := F0 m 15 ls [.ref (aa 0)]) (rfl) ?_
  refine lv_astore_n hx hb d_W_15 rfl hl (by decide) rfl (fun ls hl => ?_)
  have hl : lv_has ls 8 [(2, .ref (aa 0)), (1, .ref (bb 0)), (0, .ref b)] := hl
  refine lv_iconst (v := nI 1) hx hb d_W_16 (by decide) ?_
  refine va_newa (atype := .long) (ty := .long) (a0 := (1, .inr (.inl (fun _ => 0)))) (N' := 1) hx hb (hB _ bw_54) rfl hK hP hD hS hA (fun _ => rfl) (by decide) (by decide) (by decide) (Nat.le_of_ble_eq_true rfl) (Nat.le_of_ble_eq_true rfl) d_W_17 (fun o cA H hK1 hP hD hS => ?_)
  have hc9 : cA = k 1 := Option.some.inj ((hK1.2 5 _ rfl).2.symm.trans (hK.2 1 _ rfl).2)
  subst hc9
  clear hK1
  have hP : va_P (dC, dI) vwC (qW k bb o aa yNew (fun _ => 0) zNew) H := va_P_rot hP
  have hD : va_D (xA s) (qW k bb o aa yNew (fun _ => 0) zNew) := va_D_rot hD
  refine lv_astore_n hx hb d_W_19 rfl hl (by decide) rfl (fun ls hl => ?_)
  have hl : lv_has ls 8 [(3, .ref o), (2, .ref (aa 0)), (1, .ref (bb 0)), (0, .ref b)] := hl
  refine lv_iconst (v := nI 0) hx hb d_W_20 (by decide) ?_
  refine lv_istore hx hb d_W_21 hl (by decide) rfl (fun ls hl => ?_)
  have hl : lv_has ls 8 [(4, .int (nI 0)), (3, .ref o), (2, .ref (aa 0)), (1, .ref (bb 0)), (0, .ref b)] := hl
  exact law_loop l hx hb hml hown hB hX hbl hK hTh hCt htr hr hlocks hL 512 0 H _ ls _ _ yNew (fun _ => 0) zNew (by omega) rfl rfl rfl hl hP hD hS sim_new
