/-! The constructors: of the reference. -/
def xad (L : List Nat) (i : Nat) : Nat := L.getD i 0
/-- the start of a constructor: its object is there, with the values that a new object has -/
def iPc (dC : Nat → ClassId) (dI : Nat → Nat → Nat) (k : Nat → ClassId) (ci : Nat) (fs : List Value) (a0 sz : Nat) : Array Value → State → Prop := va_Pc [.ref a0] (fun U => U.heap.size = sz ∧ va_P (dC, dI) vwC [(a0, .inr (ci, fs))] U.heap ∧ va_K (dC, dI) vwC (kT k) U ∧ va_D (fun _ => True) [(a0, .inr (ci, fs))])
abbrev fsM : List Value := [.int 0, .null, .null, .null, .null, .null, .null, .null, .null, .int 0, .int 0]
abbrev iQ (dC : Nat → ClassId) (dI : Nat → Nat → Nat) (w : (Nat → Nat) → va_W) (ci : Nat) (fs : List Value) (a0 sz : Nat) : Array Value → State → Outcome → State → Prop := va_Qv (fun u : Nat → Nat => u 0 = a0 ∧ va_D (va_A [(a0, .inr (ci, fs))] sz) (w u)) (fun u t => va_P (dC, dI) vwC (w u) t.heap) (va_A [(a0, .inr (ci, fs))] sz)
set_option maxHeartbeats 4000000 in
set_option maxRecDepth 100000 in
theorem m_M_init (l : Launch) (dC : Nat → ClassId) (dI : Nat → Nat → Nat) (k : Nat → ClassId) (a0 sz : Nat) : Met l y_M_init w_M_init (rmx 1 8 3152 12) (iPc dC dI k 2 fsM a0 sz) (iQ dC dI (fun u => mW k u zNew) 2 fsM a0 sz) 8 3152 (va_A [(a0, .inr (2, fsM))] sz) := by
  refine Met.ofW (cc := c_M_init) (maxL := 1) (ret := none) (by decide) rfl ?_
  intro p e s m args below meth c s₁ B hml hv
  obtain ⟨rfl, hsz, hP, hK, hD0⟩ := hv
  have hx := B.exec
  have hb := B.bytes
  have hr := B.returns
  have hts := atoms_spec (ws := w_M_init) B.pre
  have hB : ∀ w ∈ BIG, w.before _ s = true := fun w h => hts w (List.mem_cons_of_mem _ h)
  have hown : s.vm.findClass R_M = some m.cls := findClass_of_methodNamed B.named
  have hlocks := B.notSynchronized
  have hin : meth.name = "<init>" := (name_of_methodNamed B.named B.method).1
  have hl := lv_entry ([.ref a0]) (n := 1) (Nat.le_of_ble_eq_true rfl)
  rw [lg_entry_eq]
  generalize (lg_sl ([.ref a0]) ++ List.replicate (1 - (lg_sl ([.ref a0])).length) Slot.unset).toArray = ls at hl ⊢
  have hl : lv_has ls 1 [(0, .ref a0)] := hl
  subst hsz
  unfold iQ
  have hD := hD0.self (sz := s.heap.size)
  generalize hAe : va_A [(a0, .inr (2, fsM))] s.heap.size = A at hD ⊢
  have hA : ∀ q : Nat, s.heap.size ≤ q → A q := fun q h => by rw [← hAe]; exact Or.inr h
  have hS : va_S A s.heap s.heap [] := va_S.rf
  refine lv_aload_n hx hb d_M_init_0 rfl (lv_at hl 0 rfl) ?_
  refine W.objInit hx hb hown (hB _ bw_354) (hB _ bw_33) (hB _ bw_34) rfl (by rw [hml]; exact hl.1) rfl d_M_init_1 (Nat.le_of_ble_eq_true rfl) (Nat.le_of_ble_eq_true rfl) ?_
  refine W.eq (g2 := F0 m 4 ls []) (rfl) ?_
  refine lv_aload_n hx hb d_M_init_4 rfl (lv_at hl 0 rfl) ?_
  refine lv_bipush (v := nI 32) hx hb d_M_init_5 (by decide) ?_
  refine va_newa (atype := .long) (ty := .long) (a0 := (32, .inr (.inl (zC zNew)))) (N' := 32) hx hb (hB _ bw_54) rfl hK hP hD hS hA (fun _ => rfl) (by decide) (by decide) (by decide) (Nat.le_of_ble_eq_true rfl) (Nat.le_of_ble_eq_true rfl) d_M_init_7 (fun q1 cA H hK1 hP hD hS => ?_)
  have hc9 : cA = k 1 := Option.some.inj ((hK1.2 5 _ rfl).2.symm.trans (hK.2 1 _ rfl).2)
  subst hc9
  clear hK1
  have hP : va_P (dC, dI) vwC [(a0, .inr (2, [.int 0, .null, .null, .null, .null, .null, .null, .null, .null, .int 0, .int 0])), (q1, .inl (k 1, 32, .inr (.inl (zC zNew))))] H := hP
  have hD : va_D A [(a0, .inr (2, [.int 0, .null, .null, .null, .null, .null, .null, .null, .null, .int 0, .int 0])), (q1, .inl (k 1, 32, .inr (.inl (zC zNew))))] := hD
  refine va_putF (D := (dC, dI)) (ci := 2) (v := .ref q1) (ty := (.array .long)) (C := R_M) (T := F_M) (N := 11) hx hb hB in_M tf_M ty_M nm_M hown hK hP hD hS 0 rfl rfl 1 (by decide) (hB _ bw_356) (fun _ h9 => h9) rfl hin rfl (by decide +kernel) (rfl) (rfl) (Nat.le_of_ble_eq_true rfl) d_M_init_9 (fun H locs hP hD hS => ?_)
  have hP : va_P (dC, dI) vwC [(a0, .inr (2, [.int 0, .ref q1, .null, .null, .null, .null, .null, .null, .null, .int 0, .int 0])), (q1, .inl (k 1, 32, .inr (.inl (zC zNew))))] H := hP
  have hD : va_D A [(a0, .inr (2, [.int 0, .ref q1, .null, .null, .null, .null, .null, .null, .null, .int 0, .int 0])), (q1, .inl (k 1, 32, .inr (.inl (zC zNew))))] := hD
  refine lv_aload_n hx hb d_M_init_12 rfl (lv_at hl 0 rfl) ?_
  refine lv_sipush (v := nI 1280) hx hb d_M_init_13 (by decide) ?_
  refine va_newa (atype := .long) (ty := .long) (a0 := (1280, .inr (.inl (zW zNew)))) (N' := 1280) hx hb (hB _ bw_54) rfl hK hP hD hS hA (fun _ => rfl) (by decide) (by decide) (by decide) (Nat.le_of_ble_eq_true rfl) (Nat.le_of_ble_eq_true rfl) d_M_init_16 (fun q2 cA H hK1 hP hD hS => ?_)
  have hc9 : cA = k 1 := Option.some.inj ((hK1.2 5 _ rfl).2.symm.trans (hK.2 1 _ rfl).2)
  subst hc9
  clear hK1
  have hP : va_P (dC, dI) vwC [(a0, .inr (2, [.int 0, .ref q1, .null, .null, .null, .null, .null, .null, .null, .int 0, .int 0])), (q1, .inl (k 1, 32, .inr (.inl (zC zNew)))), (q2, .inl (k 1, 1280, .inr (.inl (zW zNew))))] H := hP
  have hD : va_D A [(a0, .inr (2, [.int 0, .ref q1, .null, .null, .null, .null, .null, .null, .null, .int 0, .int 0])), (q1, .inl (k 1, 32, .inr (.inl (zC zNew)))), (q2, .inl (k 1, 1280, .inr (.inl (zW zNew))))] := hD
  refine va_putF (D := (dC, dI)) (ci := 2) (v := .ref q2) (ty := (.array .long)) (C := R_M) (T := F_M) (N := 11) hx hb hB in_M tf_M ty_M nm_M hown hK hP hD hS 0 rfl rfl 2 (by decide) (hB _ bw_357) (fun _ h9 => h9) rfl hin rfl (by decide +kernel) (rfl) (rfl) (Nat.le_of_ble_eq_true rfl) d_M_init_18 (fun H locs hP hD hS => ?_)
  have hP : va_P (dC, dI) vwC [(a0, .inr (2, [.int 0, .ref q1, .ref q2, .null, .null, .null, .null, .null, .null, .int 0, .int 0])), (q1, .inl (k 1, 32, .inr (.inl (zC zNew)))), (q2, .inl (k 1, 1280, .inr (.inl (zW zNew))))] H := hP
  have hD : va_D A [(a0, .inr (2, [.int 0, .ref q1, .ref q2, .null, .null, .null, .null, .null, .null, .int 0, .int 0])), (q1, .inl (k 1, 32, .inr (.inl (zC zNew)))), (q2, .inl (k 1, 1280, .inr (.inl (zW zNew))))] := hD
  refine lv_aload_n hx hb d_M_init_21 rfl (lv_at hl 0 rfl) ?_
  refine lv_bipush (v := nI 32) hx hb d_M_init_22 (by decide) ?_
  refine va_newa (atype := .int) (ty := .int) (a0 := (32, .inl (zG zNew))) (N' := 32) hx hb (hB _ bw_55) rfl hK hP hD hS hA (fun _ => rfl) (by decide) (by decide) (by decide) (Nat.le_of_ble_eq_true rfl) (Nat.le_of_ble_eq_true rfl) d_M_init_24 (fun q3 cA H hK1 hP hD hS => ?_)
  have hc9 : cA = k 0 := Option.some.inj ((hK1.2 5 _ rfl).2.symm.trans (hK.2 0 _ rfl).2)
  subst hc9
  clear hK1
  have hP : va_P (dC, dI) vwC [(a0, .inr (2, [.int 0, .ref q1, .ref q2, .null, .null, .null, .null, .null, .null, .int 0, .int 0])), (q1, .inl (k 1, 32, .inr (.inl (zC zNew)))), (q2, .inl (k 1, 1280, .inr (.inl (zW zNew)))), (q3, .inl (k 0, 32, .inl (zG zNew)))] H := hP
  have hD : va_D A [(a0, .inr (2, [.int 0, .ref q1, .ref q2, .null, .null, .null, .null, .null, .null, .int 0, .int 0])), (q1, .inl (k 1, 32, .inr (.inl (zC zNew)))), (q2, .inl (k 1, 1280, .inr (.inl (zW zNew)))), (q3, .inl (k 0, 32, .inl (zG zNew)))] := hD
  refine va_putF (D := (dC, dI)) (ci := 2) (v := .ref q3) (ty := (.array .int)) (C := R_M) (T := F_M) (N := 11) hx hb hB in_M tf_M ty_M nm_M hown hK hP hD hS 0 rfl rfl 3 (by decide) (hB _ bw_358) (fun _ h9 => h9) rfl hin rfl (by decide +kernel) (rfl) (rfl) (Nat.le_of_ble_eq_true rfl) d_M_init_26 (fun H locs hP hD hS => ?_)
  have hP : va_P (dC, dI) vwC [(a0, .inr (2, [.int 0, .ref q1, .ref q2, .ref q3, .null, .null, .null, .null, .null, .int 0, .int 0])), (q1, .inl (k 1, 32, .inr (.inl (zC zNew)))), (q2, .inl (k 1, 1280, .inr (.inl (zW zNew)))), (q3, .inl (k 0, 32, .inl (zG zNew)))] H := hP
  have hD : va_D A [(a0, .inr (2, [.int 0, .ref q1, .ref q2, .ref q3, .null, .null, .null, .null, .null, .int 0, .int 0])), (q1, .inl (k 1, 32, .inr (.inl (zC zNew)))), (q2, .inl (k 1, 1280, .inr (.inl (zW zNew)))), (q3, .inl (k 0, 32, .inl (zG zNew)))] := hD
  refine lv_aload_n hx hb d_M_init_29 rfl (lv_at hl 0 rfl) ?_
  refine lv_bipush (v := nI 8) hx hb d_M_init_30 (by decide) ?_
  refine va_newa (atype := .int) (ty := .int) (a0 := (8, .inl (fun t => nI (zP zNew t)))) (N' := 8) hx hb (hB _ bw_55) rfl hK hP hD hS hA (fun _ => rfl) (by decide) (by decide) (by decide) (Nat.le_of_ble_eq_true rfl) (Nat.le_of_ble_eq_true rfl) d_M_init_32 (fun q4 cA H hK1 hP hD hS => ?_)
  have hc9 : cA = k 0 := Option.some.inj ((hK1.2 5 _ rfl).2.symm.trans (hK.2 0 _ rfl).2)
  subst hc9
  clear hK1
  have hP : va_P (dC, dI) vwC [(a0, .inr (2, [.int 0, .ref q1, .ref q2, .ref q3, .null, .null, .null, .null, .null, .int 0, .int 0])), (q1, .inl (k 1, 32, .inr (.inl (zC zNew)))), (q2, .inl (k 1, 1280, .inr (.inl (zW zNew)))), (q3, .inl (k 0, 32, .inl (zG zNew))), (q4, .inl (k 0, 8, .inl (fun t => nI (zP zNew t))))] H := hP
  have hD : va_D A [(a0, .inr (2, [.int 0, .ref q1, .ref q2, .ref q3, .null, .null, .null, .null, .null, .int 0, .int 0])), (q1, .inl (k 1, 32, .inr (.inl (zC zNew)))), (q2, .inl (k 1, 1280, .inr (.inl (zW zNew)))), (q3, .inl (k 0, 32, .inl (zG zNew))), (q4, .inl (k 0, 8, .inl (fun t => nI (zP zNew t))))] := hD
  refine va_putF (D := (dC, dI)) (ci := 2) (v := .ref q4) (ty := (.array .int)) (C := R_M) (T := F_M) (N := 11) hx hb hB in_M tf_M ty_M nm_M hown hK hP hD hS 0 rfl rfl 4 (by decide) (hB _ bw_359) (fun _ h9 => h9) rfl hin rfl (by decide +kernel) (rfl) (rfl) (Nat.le_of_ble_eq_true rfl) d_M_init_34 (fun H locs hP hD hS => ?_)
  have hP : va_P (dC, dI) vwC [(a0, .inr (2, [.int 0, .ref q1, .ref q2, .ref q3, .ref q4, .null, .null, .null, .null, .int 0, .int 0])), (q1, .inl (k 1, 32, .inr (.inl (zC zNew)))), (q2, .inl (k 1, 1280, .inr (.inl (zW zNew)))), (q3, .inl (k 0, 32, .inl (zG zNew))), (q4, .inl (k 0, 8, .inl (fun t => nI (zP zNew t))))] H := hP
  have hD : va_D A [(a0, .inr (2, [.int 0, .ref q1, .ref q2, .ref q3, .ref q4, .null, .null, .null, .null, .int 0, .int 0])), (q1, .inl (k 1, 32, .inr (.inl (zC zNew)))), (q2, .inl (k 1, 1280, .inr (.inl (zW zNew)))), (q3, .inl (k 0, 32, .inl (zG zNew))), (q4, .inl (k 0, 8, .inl (fun t => nI (zP zNew t))))] := hD
  refine lv_aload_n hx hb d_M_init_37 rfl (lv_at hl 0 rfl) ?_
  refine lv_sipush (v := nI 256) hx hb d_M_init_38 (by decide) ?_
  refine va_newa (atype := .int) (ty := .int) (a0 := (256, .inl (zS zNew))) (N' := 256) hx hb (hB _ bw_55) rfl hK hP hD hS hA (fun _ => rfl) (by decide) (by decide) (by decide) (Nat.le_of_ble_eq_true rfl) (Nat.le_of_ble_eq_true rfl) d_M_init_41 (fun q5 cA H hK1 hP hD hS => ?_)
  have hc9 : cA = k 0 := Option.some.inj ((hK1.2 5 _ rfl).2.symm.trans (hK.2 0 _ rfl).2)
  subst hc9
  clear hK1
  have hP : va_P (dC, dI) vwC [(a0, .inr (2, [.int 0, .ref q1, .ref q2, .ref q3, .ref q4, .null, .null, .null, .null, .int 0, .int 0])), (q1, .inl (k 1, 32, .inr (.inl (zC zNew)))), (q2, .inl (k 1, 1280, .inr (.inl (zW zNew)))), (q3, .inl (k 0, 32, .inl (zG zNew))), (q4, .inl (k 0, 8, .inl (fun t => nI (zP zNew t)))), (q5, .inl (k 0, 256, .inl (zS zNew)))] H := hP
  have hD : va_D A [(a0, .inr (2, [.int 0, .ref q1, .ref q2, .ref q3, .ref q4, .null, .null, .null, .null, .int 0, .int 0])), (q1, .inl (k 1, 32, .inr (.inl (zC zNew)))), (q2, .inl (k 1, 1280, .inr (.inl (zW zNew)))), (q3, .inl (k 0, 32, .inl (zG zNew))), (q4, .inl (k 0, 8, .inl (fun t => nI (zP zNew t)))), (q5, .inl (k 0, 256, .inl (zS zNew)))] := hD
  refine va_putF (D := (dC, dI)) (ci := 2) (v := .ref q5) (ty := (.array .int)) (C := R_M) (T := F_M) (N := 11) hx hb hB in_M tf_M ty_M nm_M hown hK hP hD hS 0 rfl rfl 5 (by decide) (hB _ bw_360) (fun _ h9 => h9) rfl hin rfl (by decide +kernel) (rfl) (rfl) (Nat.le_of_ble_eq_true rfl) d_M_init_43 (fun H locs hP hD hS => ?_)
  have hP : va_P (dC, dI) vwC [(a0, .inr (2, [.int 0, .ref q1, .ref q2, .ref q3, .ref q4, .ref q5, .null, .null, .null, .int 0, .int 0])), (q1, .inl (k 1, 32, .inr (.inl (zC zNew)))), (q2, .inl (k 1, 1280, .inr (.inl (zW zNew)))), (q3, .inl (k 0, 32, .inl (zG zNew))), (q4, .inl (k 0, 8, .inl (fun t => nI (zP zNew t)))), (q5, .inl (k 0, 256, .inl (zS zNew)))] H := hP
  have hD : va_D A [(a0, .inr (2, [.int 0, .ref q1, .ref q2, .ref q3, .ref q4, .ref q5, .null, .null, .null, .int 0, .int 0])), (q1, .inl (k 1, 32, .inr (.inl (zC zNew)))), (q2, .inl (k 1, 1280, .inr (.inl (zW zNew)))), (q3, .inl (k 0, 32, .inl (zG zNew))), (q4, .inl (k 0, 8, .inl (fun t => nI (zP zNew t)))), (q5, .inl (k 0, 256, .inl (zS zNew)))] := hD
  refine lv_aload_n hx hb d_M_init_46 rfl (lv_at hl 0 rfl) ?_
  refine lv_sipush (v := nI 1280) hx hb d_M_init_47 (by decide) ?_
  refine va_newa (atype := .boolean) (ty := .boolean) (a0 := (1280, .inl (fun j => bI (zH zNew j)))) (N' := 1280) hx hb (hB _ bw_378) rfl hK hP hD hS hA (fun _ => rfl) (by decide) (by decide) (by decide) (Nat.le_of_ble_eq_true rfl) (Nat.le_of_ble_eq_true rfl) d_M_init_50 (fun q6 cA H hK1 hP hD hS => ?_)
  have hc9 : cA = k 4 := Option.some.inj ((hK1.2 5 _ rfl).2.symm.trans (hK.2 4 _ rfl).2)
  subst hc9
  clear hK1
  have hP : va_P (dC, dI) vwC [(a0, .inr (2, [.int 0, .ref q1, .ref q2, .ref q3, .ref q4, .ref q5, .null, .null, .null, .int 0, .int 0])), (q1, .inl (k 1, 32, .inr (.inl (zC zNew)))), (q2, .inl (k 1, 1280, .inr (.inl (zW zNew)))), (q3, .inl (k 0, 32, .inl (zG zNew))), (q4, .inl (k 0, 8, .inl (fun t => nI (zP zNew t)))), (q5, .inl (k 0, 256, .inl (zS zNew))), (q6, .inl (k 4, 1280, .inl (fun j => bI (zH zNew j))))] H := hP
  have hD : va_D A [(a0, .inr (2, [.int 0, .ref q1, .ref q2, .ref q3, .ref q4, .ref q5, .null, .null, .null, .int 0, .int 0])), (q1, .inl (k 1, 32, .inr (.inl (zC zNew)))), (q2, .inl (k 1, 1280, .inr (.inl (zW zNew)))), (q3, .inl (k 0, 32, .inl (zG zNew))), (q4, .inl (k 0, 8, .inl (fun t => nI (zP zNew t)))), (q5, .inl (k 0, 256, .inl (zS zNew))), (q6, .inl (k 4, 1280, .inl (fun j => bI (zH zNew j))))] := hD
  refine va_putF (D := (dC, dI)) (ci := 2) (v := .ref q6) (ty := (.array .boolean)) (C := R_M) (T := F_M) (N := 11) hx hb hB in_M tf_M ty_M nm_M hown hK hP hD hS 0 rfl rfl 6 (by decide) (hB _ bw_361) (fun _ h9 => h9) rfl hin rfl (by decide +kernel) (rfl) (rfl) (Nat.le_of_ble_eq_true rfl) d_M_init_52 (fun H locs hP hD hS => ?_)
  have hP : va_P (dC, dI) vwC [(a0, .inr (2, [.int 0, .ref q1, .ref q2, .ref q3, .ref q4, .ref q5, .ref q6, .null, .null, .int 0, .int 0])), (q1, .inl (k 1, 32, .inr (.inl (zC zNew)))), (q2, .inl (k 1, 1280, .inr (.inl (zW zNew)))), (q3, .inl (k 0, 32, .inl (zG zNew))), (q4, .inl (k 0, 8, .inl (fun t => nI (zP zNew t)))), (q5, .inl (k 0, 256, .inl (zS zNew))), (q6, .inl (k 4, 1280, .inl (fun j => bI (zH zNew j))))] H := hP
  have hD : va_D A [(a0, .inr (2, [.int 0, .ref q1, .ref q2, .ref q3, .ref q4, .ref q5, .ref q6, .null, .null, .int 0, .int 0])), (q1, .inl (k 1, 32, .inr (.inl (zC zNew)))), (q2, .inl (k 1, 1280, .inr (.inl (zW zNew)))), (q3, .inl (k 0, 32, .inl (zG zNew))), (q4, .inl (k 0, 8, .inl (fun t => nI (zP zNew t)))), (q5, .inl (k 0, 256, .inl (zS zNew))), (q6, .inl (k 4, 1280, .inl (fun j => bI (zH zNew j))))] := hD
  refine lv_aload_n hx hb d_M_init_55 rfl (lv_at hl 0 rfl) ?_
  refine lv_sipush (v := nI 256) hx hb d_M_init_56 (by decide) ?_
  refine va_newa (atype := .boolean) (ty := .boolean) (a0 := (256, .inl (fun j => bI (zR zNew j)))) (N' := 256) hx hb (hB _ bw_378) rfl hK hP hD hS hA (fun _ => rfl) (by decide) (by decide) (by decide) (Nat.le_of_ble_eq_true rfl) (Nat.le_of_ble_eq_true rfl) d_M_init_59 (fun q7 cA H hK1 hP hD hS => ?_)
  have hc9 : cA = k 4 := Option.some.inj ((hK1.2 5 _ rfl).2.symm.trans (hK.2 4 _ rfl).2)
  subst hc9
  clear hK1
  have hP : va_P (dC, dI) vwC [(a0, .inr (2, [.int 0, .ref q1, .ref q2, .ref q3, .ref q4, .ref q5, .ref q6, .null, .null, .int 0, .int 0])), (q1, .inl (k 1, 32, .inr (.inl (zC zNew)))), (q2, .inl (k 1, 1280, .inr (.inl (zW zNew)))), (q3, .inl (k 0, 32, .inl (zG zNew))), (q4, .inl (k 0, 8, .inl (fun t => nI (zP zNew t)))), (q5, .inl (k 0, 256, .inl (zS zNew))), (q6, .inl (k 4, 1280, .inl (fun j => bI (zH zNew j)))), (q7, .inl (k 4, 256, .inl (fun j => bI (zR zNew j))))] H := hP
  have hD : va_D A [(a0, .inr (2, [.int 0, .ref q1, .ref q2, .ref q3, .ref q4, .ref q5, .ref q6, .null, .null, .int 0, .int 0])), (q1, .inl (k 1, 32, .inr (.inl (zC zNew)))), (q2, .inl (k 1, 1280, .inr (.inl (zW zNew)))), (q3, .inl (k 0, 32, .inl (zG zNew))), (q4, .inl (k 0, 8, .inl (fun t => nI (zP zNew t)))), (q5, .inl (k 0, 256, .inl (zS zNew))), (q6, .inl (k 4, 1280, .inl (fun j => bI (zH zNew j)))), (q7, .inl (k 4, 256, .inl (fun j => bI (zR zNew j))))] := hD
  refine va_putF (D := (dC, dI)) (ci := 2) (v := .ref q7) (ty := (.array .boolean)) (C := R_M) (T := F_M) (N := 11) hx hb hB in_M tf_M ty_M nm_M hown hK hP hD hS 0 rfl rfl 7 (by decide) (hB _ bw_362) (fun _ h9 => h9) rfl hin rfl (by decide +kernel) (rfl) (rfl) (Nat.le_of_ble_eq_true rfl) d_M_init_61 (fun H locs hP hD hS => ?_)
  have hP : va_P (dC, dI) vwC [(a0, .inr (2, [.int 0, .ref q1, .ref q2, .ref q3, .ref q4, .ref q5, .ref q6, .ref q7, .null, .int 0, .int 0])), (q1, .inl (k 1, 32, .inr (.inl (zC zNew)))), (q2, .inl (k 1, 1280, .inr (.inl (zW zNew)))), (q3, .inl (k 0, 32, .inl (zG zNew))), (q4, .inl (k 0, 8, .inl (fun t => nI (zP zNew t)))), (q5, .inl (k 0, 256, .inl (zS zNew))), (q6, .inl (k 4, 1280, .inl (fun j => bI (zH zNew j)))), (q7, .inl (k 4, 256, .inl (fun j => bI (zR zNew j))))] H := hP
  have hD : va_D A [(a0, .inr (2, [.int 0, .ref q1, .ref q2, .ref q3, .ref q4, .ref q5, .ref q6, .ref q7, .null, .int 0, .int 0])), (q1, .inl (k 1, 32, .inr (.inl (zC zNew)))), (q2, .inl (k 1, 1280, .inr (.inl (zW zNew)))), (q3, .inl (k 0, 32, .inl (zG zNew))), (q4, .inl (k 0, 8, .inl (fun t => nI (zP zNew t)))), (q5, .inl (k 0, 256, .inl (zS zNew))), (q6, .inl (k 4, 1280, .inl (fun j => bI (zH zNew j)))), (q7, .inl (k 4, 256, .inl (fun j => bI (zR zNew j))))] := hD
  refine lv_aload_n hx hb d_M_init_64 rfl (lv_at hl 0 rfl) ?_
  refine lv_bipush (v := nI 8) hx hb d_M_init_65 (by decide) ?_
  refine va_newa (atype := .boolean) (ty := .boolean) (a0 := (8, .inl (fun j => bI (zO zNew j)))) (N' := 8) hx hb (hB _ bw_378) rfl hK hP hD hS hA (fun _ => rfl) (by decide) (by decide) (by decide) (Nat.le_of_ble_eq_true rfl) (Nat.le_of_ble_eq_true rfl) d_M_init_67 (fun q8 cA H hK1 hP hD hS => ?_)
  have hc9 : cA = k 4 := Option.some.inj ((hK1.2 5 _ rfl).2.symm.trans (hK.2 4 _ rfl).2)
  subst hc9
  clear hK1
  have hP : va_P (dC, dI) vwC [(a0, .inr (2, [.int 0, .ref q1, .ref q2, .ref q3, .ref q4, .ref q5, .ref q6, .ref q7, .null, .int 0, .int 0])), (q1, .inl (k 1, 32, .inr (.inl (zC zNew)))), (q2, .inl (k 1, 1280, .inr (.inl (zW zNew)))), (q3, .inl (k 0, 32, .inl (zG zNew))), (q4, .inl (k 0, 8, .inl (fun t => nI (zP zNew t)))), (q5, .inl (k 0, 256, .inl (zS zNew))), (q6, .inl (k 4, 1280, .inl (fun j => bI (zH zNew j)))), (q7, .inl (k 4, 256, .inl (fun j => bI (zR zNew j)))), (q8, .inl (k 4, 8, .inl (fun j => bI (zO zNew j))))] H := hP
  have hD : va_D A [(a0, .inr (2, [.int 0, .ref q1, .ref q2, .ref q3, .ref q4, .ref q5, .ref q6, .ref q7, .null, .int 0, .int 0])), (q1, .inl (k 1, 32, .inr (.inl (zC zNew)))), (q2, .inl (k 1, 1280, .inr (.inl (zW zNew)))), (q3, .inl (k 0, 32, .inl (zG zNew))), (q4, .inl (k 0, 8, .inl (fun t => nI (zP zNew t)))), (q5, .inl (k 0, 256, .inl (zS zNew))), (q6, .inl (k 4, 1280, .inl (fun j => bI (zH zNew j)))), (q7, .inl (k 4, 256, .inl (fun j => bI (zR zNew j)))), (q8, .inl (k 4, 8, .inl (fun j => bI (zO zNew j))))] := hD
  refine va_putF (D := (dC, dI)) (ci := 2) (v := .ref q8) (ty := (.array .boolean)) (C := R_M) (T := F_M) (N := 11) hx hb hB in_M tf_M ty_M nm_M hown hK hP hD hS 0 rfl rfl 8 (by decide) (hB _ bw_363) (fun _ h9 => h9) rfl hin rfl (by decide +kernel) (rfl) (rfl) (Nat.le_of_ble_eq_true rfl) d_M_init_69 (fun H locs hP hD hS => ?_)
  have hP : va_P (dC, dI) vwC [(a0, .inr (2, [.int 0, .ref q1, .ref q2, .ref q3, .ref q4, .ref q5, .ref q6, .ref q7, .ref q8, .int 0, .int 0])), (q1, .inl (k 1, 32, .inr (.inl (zC zNew)))), (q2, .inl (k 1, 1280, .inr (.inl (zW zNew)))), (q3, .inl (k 0, 32, .inl (zG zNew))), (q4, .inl (k 0, 8, .inl (fun t => nI (zP zNew t)))), (q5, .inl (k 0, 256, .inl (zS zNew))), (q6, .inl (k 4, 1280, .inl (fun j => bI (zH zNew j)))), (q7, .inl (k 4, 256, .inl (fun j => bI (zR zNew j)))), (q8, .inl (k 4, 8, .inl (fun j => bI (zO zNew j))))] H := hP
  have hD : va_D A [(a0, .inr (2, [.int 0, .ref q1, .ref q2, .ref q3, .ref q4, .ref q5, .ref q6, .ref q7, .ref q8, .int 0, .int 0])), (q1, .inl (k 1, 32, .inr (.inl (zC zNew)))), (q2, .inl (k 1, 1280, .inr (.inl (zW zNew)))), (q3, .inl (k 0, 32, .inl (zG zNew))), (q4, .inl (k 0, 8, .inl (fun t => nI (zP zNew t)))), (q5, .inl (k 0, 256, .inl (zS zNew))), (q6, .inl (k 4, 1280, .inl (fun j => bI (zH zNew j)))), (q7, .inl (k 4, 256, .inl (fun j => bI (zR zNew j)))), (q8, .inl (k 4, 8, .inl (fun j => bI (zO zNew j))))] := hD
  exact W.vret hx hb hr (fun t ht hW => ⟨⟨xad [a0, q1, q2, q3, q4, q5, q6, q7, q8], rfl, ⟨rfl, hD⟩, by show va_P (dC, dI) vwC _ t.heap; rw [ht]; exact hP⟩, hS.F ht⟩) hS.2.2 d_M_init_72
