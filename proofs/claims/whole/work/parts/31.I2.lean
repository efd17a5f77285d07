/-! The constructor of the nested class. -/
abbrev fsT : List Value := [.int 0, .int 0, .int 0, .int 0, .null, .null]
def xaT (a0 q1 q : Nat) : Nat → Nat
  | 0 => a0
  | 1 => q1
  | n + 2 => q + n
theorem xaT_row (a0 q1 q : Nat) : (fun i => some (q + 1 + i)) = fun i => some (xaT a0 q1 q (3 + i)) := by
  funext i
  rw [show 3 + i = (i + 1) + 2 by omega]
  show some (q + 1 + i) = some (q + (i + 1))
  rw [show q + 1 + i = q + (i + 1) by omega]
def tiPc (dC : Nat → ClassId) (dI : Nat → Nat → Nat) (k : Nat → ClassId) (a0 sz : Nat) : Array Value → State → Prop := va_Pc [.ref a0] (fun U => U.heap.size = sz ∧ va_P (dC, dI) vwC [(a0, .inr (0, fsT))] U.heap ∧ va_K (dC, dI) vwC (kT k) U ∧ va_D (fun _ => True) [(a0, .inr (0, fsT))] ∧ xAO k U)
set_option maxHeartbeats 4000000 in
set_option maxRecDepth 100000 in
theorem m_T_init (l : Launch) (dC : Nat → ClassId) (dI : Nat → Nat → Nat) (k : Nat → ClassId) (a0 sz : Nat) : Met l y_T_init w_T_init (rmx 1 7 170 12) (tiPc dC dI k a0 sz) (iQ dC dI (fun u => tW k u tNew) 0 fsT a0 sz) 7 170 (va_A [(a0, .inr (0, fsT))] sz) := by
  refine Met.ofW (cc := c_T_init) (maxL := 1) (ret := none) (by decide) rfl ?_
  intro p e s m args below meth c s₁ B hml hv
  obtain ⟨rfl, hsz, hP, hK, hD0, hAO⟩ := hv
  have hx := B.exec
  have hb := B.bytes
  have hr := B.returns
  have hts := atoms_spec (ws := w_T_init) B.pre
  have hB : ∀ w ∈ BIG, w.before _ s = true := fun w h => hts w (List.mem_cons_of_mem _ h)
  have hown : s.vm.findClass R_T = some m.cls := findClass_of_methodNamed B.named
  have hlocks := B.notSynchronized
  have hin : meth.name = "<init>" := (name_of_methodNamed B.named B.method).1
  have hl := lv_entry ([.ref a0]) (n := 1) (Nat.le_of_ble_eq_true rfl)
  rw [lg_entry_eq]
  generalize (lg_sl ([.ref a0]) ++ List.replicate (1 - (lg_sl ([.ref a0])).length) Slot.unset).toArray = ls at hl ⊢
  have hl : lv_has ls 1 [(0, .ref a0)] := hl
  subst hsz
  unfold iQ
  have hD := hD0.self (sz := s.heap.size)
  generalize hAe : va_A [(a0, .inr (0, fsT))] s.heap.size = A at hD ⊢
  have hA : ∀ q : Nat, s.heap.size ≤ q → A q := fun q h => by rw [← hAe]; exact Or.inr h
  have hS : va_S A s.heap s.heap [] := va_S.rf
  refine lv_aload_n hx hb d_T_init_0 rfl (lv_at hl 0 rfl) ?_
  refine W.objInit hx hb hown (hB _ bw_39) (hB _ bw_33) (hB _ bw_34) rfl (by rw [hml]; exact hl.1) rfl d_T_init_1 (Nat.le_of_ble_eq_true rfl) (Nat.le_of_ble_eq_true rfl) ?_
  refine W.eq (g2 := F0 m 4 ls []) (rfl) ?_
  refine lv_aload_n hx hb d_T_init_4 rfl (lv_at hl 0 rfl) ?_
  refine lv_iconst (v := bI false) hx hb d_T_init_5 (by decide) ?_
  refine va_put (D := (dC, dI)) (ci := 0) (v := .int (bI false)) (ty := .boolean) (C := R_T) (T := F_T) (N := 6) hx hb hB in_T tf_T ty_T nm_T hown hK hP hD hS 0 rfl rfl 0 (by decide) (hB _ bw_41) (fun _ h9 => h9) rfl (by decide +kernel) (bI_nar _) (bI_fit _) (Nat.le_of_ble_eq_true rfl) d_T_init_6 (fun H locs hP hD hS => ?_)
  have hP : va_P (dC, dI) vwC [(a0, .inr (0, [.int (bI false), .int 0, .int 0, .int 0, .null, .null]))] H := hP
  have hD : va_D A [(a0, .inr (0, [.int (bI false), .int 0, .int 0, .int 0, .null, .null]))] := hD
  refine lv_aload_n hx hb d_T_init_9 rfl (lv_at hl 0 rfl) ?_
  refine lv_iconst (v := bI false) hx hb d_T_init_10 (by decide) ?_
  refine va_put (D := (dC, dI)) (ci := 0) (v := .int (bI false)) (ty := .boolean) (C := R_T) (T := F_T) (N := 6) hx hb hB in_T tf_T ty_T nm_T hown hK hP hD hS 0 rfl rfl 1 (by decide) (hB _ bw_42) (fun _ h9 => h9) rfl (by decide +kernel) (bI_nar _) (bI_fit _) (Nat.le_of_ble_eq_true rfl) d_T_init_11 (fun H locs hP hD hS => ?_)
  have hP : va_P (dC, dI) vwC [(a0, .inr (0, [.int (bI false), .int (bI false), .int 0, .int 0, .null, .null]))] H := hP
  have hD : va_D A [(a0, .inr (0, [.int (bI false), .int (bI false), .int 0, .int 0, .null, .null]))] := hD
  refine lv_aload_n hx hb d_T_init_14 rfl (lv_at hl 0 rfl) ?_
  refine lv_iconst (v := 0) hx hb d_T_init_15 (by decide) ?_
  refine va_put (D := (dC, dI)) (ci := 0) (v := .int 0) (ty := .int) (C := R_T) (T := F_T) (N := 6) hx hb hB in_T tf_T ty_T nm_T hown hK hP hD hS 0 rfl rfl 2 (by decide) (hB _ bw_43) (fun _ h9 => h9) rfl (by decide +kernel) (rfl) (rfl) (Nat.le_of_ble_eq_true rfl) d_T_init_16 (fun H locs hP hD hS => ?_)
  have hP : va_P (dC, dI) vwC [(a0, .inr (0, [.int (bI false), .int (bI false), .int 0, .int 0, .null, .null]))] H := hP
  have hD : va_D A [(a0, .inr (0, [.int (bI false), .int (bI false), .int 0, .int 0, .null, .null]))] := hD
  refine lv_aload_n hx hb d_T_init_19 rfl (lv_at hl 0 rfl) ?_
  refine lv_iconst (v := nI 1) hx hb d_T_init_20 (by decide) ?_
  refine va_put (D := (dC, dI)) (ci := 0) (v := .int (nI 1)) (ty := .int) (C := R_T) (T := F_T) (N := 6) hx hb hB in_T tf_T ty_T nm_T hown hK hP hD hS 0 rfl rfl 3 (by decide) (hB _ bw_44) (fun _ h9 => h9) rfl (by decide +kernel) (rfl) (rfl) (Nat.le_of_ble_eq_true rfl) d_T_init_21 (fun H locs hP hD hS => ?_)
  have hP : va_P (dC, dI) vwC [(a0, .inr (0, [.int (bI false), .int (bI false), .int 0, .int (nI 1), .null, .null]))] H := hP
  have hD : va_D A [(a0, .inr (0, [.int (bI false), .int (bI false), .int 0, .int (nI 1), .null, .null]))] := hD
  refine lv_aload_n hx hb d_T_init_24 rfl (lv_at hl 0 rfl) ?_
  refine lv_iconst (v := nI 5) hx hb d_T_init_25 (by decide) ?_
  refine va_newa (atype := .int) (ty := .int) (a0 := (5, .inl (fun _ => 0))) (N' := 5) hx hb (hB _ bw_55) rfl hK hP hD hS hA (fun _ => rfl) (by decide) (by decide) (by decide) (Nat.le_of_ble_eq_true rfl) (Nat.le_of_ble_eq_true rfl) d_T_init_26 (fun q1 cA H hK1 hP hD hS => ?_)
  have hc9 : cA = k 0 := Option.some.inj ((hK1.2 5 _ rfl).2.symm.trans (hK.2 0 _ rfl).2)
  subst hc9
  clear hK1
  have hP : va_P (dC, dI) vwC [(a0, .inr (0, [.int (bI false), .int (bI false), .int 0, .int (nI 1), .null, .null])), (q1, .inl (k 0, 5, .inl (fun _ => 0)))] H := hP
  have hD : va_D A [(a0, .inr (0, [.int (bI false), .int (bI false), .int 0, .int (nI 1), .null, .null])), (q1, .inl (k 0, 5, .inl (fun _ => 0)))] := hD
  refine va_putF (D := (dC, dI)) (ci := 0) (v := .ref q1) (ty := (.array .int)) (C := R_T) (T := F_T) (N := 6) hx hb hB in_T tf_T ty_T nm_T hown hK hP hD hS 0 rfl rfl 4 (by decide) (hB _ bw_45) (fun _ h9 => h9) rfl hin rfl (by decide +kernel) (rfl) (rfl) (Nat.le_of_ble_eq_true rfl) d_T_init_28 (fun H locs hP hD hS => ?_)
  have hP : va_P (dC, dI) vwC [(a0, .inr (0, [.int (bI false), .int (bI false), .int 0, .int (nI 1), .ref q1, .null])), (q1, .inl (k 0, 5, .inl (fun _ => 0)))] H := hP
  have hD : va_D A [(a0, .inr (0, [.int (bI false), .int (bI false), .int 0, .int (nI 1), .ref q1, .null])), (q1, .inl (k 0, 5, .inl (fun _ => 0)))] := hD
  refine lv_aload_n hx hb d_T_init_31 rfl (lv_at hl 0 rfl) ?_
  refine lv_iconst (v := nI 5) hx hb d_T_init_32 (by decide) ?_
  refine lv_bipush (v := nI 32) hx hb d_T_init_33 (by decide) ?_
  refine xm_new (D := (dC, dI)) (cl := vwC) (k := k) hx hb hown (hB _ bw_40) hAO (hB _ bw_54) hK hP hD hS hA d_T_init_35 (Nat.le_of_ble_eq_true rfl) (Nat.le_of_ble_eq_true rfl) (fun q H hP hD hS => ?_)
  have hP : va_P (dC, dI) vwC [(a0, .inr (0, [.int (bI false), .int (bI false), .int 0, .int (nI 1), .ref q1, .null])), (q1, .inl (k 0, 5, .inl (fun _ => 0))), (q, .inl (k 2, 5, .inr (.inr (.inr (.inr (fun i => some (q + 1 + i))))))), (q + 1, .inl (k 1, 32, .inr (.inl (fun _ => 0)))), (q + 2, .inl (k 1, 32, .inr (.inl (fun _ => 0)))), (q + 3, .inl (k 1, 32, .inr (.inl (fun _ => 0)))), (q + 4, .inl (k 1, 32, .inr (.inl (fun _ => 0)))), (q + 5, .inl (k 1, 32, .inr (.inl (fun _ => 0))))] H := hP
  have hD : va_D A [(a0, .inr (0, [.int (bI false), .int (bI false), .int 0, .int (nI 1), .ref q1, .null])), (q1, .inl (k 0, 5, .inl (fun _ => 0))), (q, .inl (k 2, 5, .inr (.inr (.inr (.inr (fun i => some (q + 1 + i))))))), (q + 1, .inl (k 1, 32, .inr (.inl (fun _ => 0)))), (q + 2, .inl (k 1, 32, .inr (.inl (fun _ => 0)))), (q + 3, .inl (k 1, 32, .inr (.inl (fun _ => 0)))), (q + 4, .inl (k 1, 32, .inr (.inl (fun _ => 0)))), (q + 5, .inl (k 1, 32, .inr (.inl (fun _ => 0))))] := hD
  refine va_putF (D := (dC, dI)) (ci := 0) (v := .ref q) (ty := (.array (.array .long))) (C := R_T) (T := F_T) (N := 6) hx hb hB in_T tf_T ty_T nm_T hown hK hP hD hS 0 rfl rfl 5 (by decide) (hB _ bw_46) (fun _ h9 => h9) rfl hin rfl (by decide +kernel) (rfl) (rfl) (Nat.le_of_ble_eq_true rfl) d_T_init_39 (fun H locs hP hD hS => ?_)
  have hP : va_P (dC, dI) vwC [(a0, .inr (0, [.int (bI false), .int (bI false), .int 0, .int (nI 1), .ref q1, .ref q])), (q1, .inl (k 0, 5, .inl (fun _ => 0))), (q, .inl (k 2, 5, .inr (.inr (.inr (.inr (fun i => some (q + 1 + i))))))), (q + 1, .inl (k 1, 32, .inr (.inl (fun _ => 0)))), (q + 2, .inl (k 1, 32, .inr (.inl (fun _ => 0)))), (q + 3, .inl (k 1, 32, .inr (.inl (fun _ => 0)))), (q + 4, .inl (k 1, 32, .inr (.inl (fun _ => 0)))), (q + 5, .inl (k 1, 32, .inr (.inl (fun _ => 0))))] H := hP
  have hD : va_D A [(a0, .inr (0, [.int (bI false), .int (bI false), .int 0, .int (nI 1), .ref q1, .ref q])), (q1, .inl (k 0, 5, .inl (fun _ => 0))), (q, .inl (k 2, 5, .inr (.inr (.inr (.inr (fun i => some (q + 1 + i))))))), (q + 1, .inl (k 1, 32, .inr (.inl (fun _ => 0)))), (q + 2, .inl (k 1, 32, .inr (.inl (fun _ => 0)))), (q + 3, .inl (k 1, 32, .inr (.inl (fun _ => 0)))), (q + 4, .inl (k 1, 32, .inr (.inl (fun _ => 0)))), (q + 5, .inl (k 1, 32, .inr (.inl (fun _ => 0))))] := hD
  rw [xaT_row a0 q1 q] at hP hD
  exact W.vret hx hb hr (fun t ht hW => ⟨⟨xaT a0 q1 q, rfl, ⟨rfl, hD⟩, by show va_P (dC, dI) vwC _ t.heap; rw [ht]; exact hP⟩, hS.F ht⟩) hS.2.2 d_T_init_42
