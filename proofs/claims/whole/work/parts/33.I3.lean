/-! The constructor of the desk. -/
abbrev fsD : List Value := [.null, .null, .null, .int 0, .int 0]
abbrev xNest : Cond := .methodLinkNest "CommitDesk" 30 y_T_init "CommitDesk"
def diPc (dC : Nat → ClassId) (dI : Nat → Nat → Nat) (k : Nat → ClassId) (a0 sz : Nat) : Array Value → State → Prop := va_Pc [.ref a0] (fun U => U.heap.size = sz ∧ va_P (dC, dI) vwC [(a0, .inr (1, fsD))] U.heap ∧ va_K (dC, dI) vwC (kT k) U ∧ va_D (fun _ => True) [(a0, .inr (1, fsD))] ∧ xAO k U ∧ va_AO R_T U ∧ va_Nw xNest U)
theorem xw_free {A : Nat → Prop} {w : va_W} {q : Nat} {e : va_E} {H H0 : Heap} (hD : va_D A (w ++ [(q, e)])) (hA : ∀ x : Nat, H0.size ≤ x → A x) (hS : H0.size ≤ H.size) : ∀ x, va_A [(q, e)] H.size x → A x := fun x h => by
  rcases h with ⟨j, e9, h⟩ | h
  · have hz : j < 1 := (List.getElem?_eq_some_iff.mp h).1
    rw [show j = 0 by omega] at h
    cases h
    exact hD.2 w.length (q, e) (by rw [List.getElem?_append_right (Nat.le_refl _), Nat.sub_self]; rfl)
  · exact hA x (Nat.le_trans hS h)
theorem tiPc_pre {dC : Nat → ClassId} {dI : Nat → Nat → Nat} {k : Nat → ClassId} {s : State} {H : Heap} {A : Nat → Prop} {w : va_W} {q : Nat} (hP : va_P (dC, dI) vwC (w ++ [(q, .inr (0, fsT))]) H) (hK : va_K (dC, dI) vwC (kT k) s) (hAO : xAO k s) : PreS s H (tiPc dC dI k q H.size) [.ref q] := by
  have hPn : va_P (dC, dI) vwC [(q, .inr (0, fsT))] H := fun i x hx => by
    have hz : i < 1 := (List.getElem?_eq_some_iff.mp hx).1
    rw [show i = 0 by omega] at hx
    exact hP w.length x (by rw [List.getElem?_append_right (Nat.le_refl _), Nat.sub_self]; exact hx)
  have hDn : va_D (fun _ => True) [(q, (.inr (0, fsT) : va_E))] := ⟨fun i j x y hx hy _ => by
    have h1 : i < 1 := (List.getElem?_eq_some_iff.mp hx).1
    have h2 : j < 1 := (List.getElem?_eq_some_iff.mp hy).1
    omega, fun _ _ _ => trivial⟩
  exact ⟨fun av U g mk z => by obtain ⟨z0, z1, zP, zK, zD, zO⟩ := z; exact ⟨z0, z1, zP, va_K.moved (u := U) (U := U.calling g mk av) (Vm.Alike.refl U.vm) zK, zD, xAO.moved (U := U.calling g mk av) (Vm.Alike.refl U.vm) zO⟩, fun U hU hW => ⟨rfl, by rw [hU], by rw [hU]; exact hPn, va_K.moved hW.alike hK, hDn, hAO.moved hW.alike⟩⟩
set_option maxHeartbeats 4000000 in
set_option maxRecDepth 100000 in
theorem m_D_init (l : Launch) (dC : Nat → ClassId) (dI : Nat → Nat → Nat) (k : Nat → ClassId) (a0 sz : Nat) : Met l y_D_init w_D_init (rmx 2 67 1480 32) (diPc dC dI k a0 sz) (iQ dC dI (fun u => dW k u yNew) 1 fsD a0 sz) 67 1480 (va_A [(a0, .inr (1, fsD))] sz) := by
  refine Met.ofW (cc := c_D_init) (maxL := 2) (ret := none) (by decide) rfl ?_
  intro p e s m args below meth c s₁ B hml hv
  obtain ⟨rfl, hsz, hP, hK, hD0, hAO, hOv, hNs⟩ := hv
  have hx := B.exec
  have hb := B.bytes
  have hr := B.returns
  have hts := atoms_spec (ws := w_D_init) B.pre
  have hB : ∀ w ∈ BIG, w.before _ s = true := fun w h => hts w (List.mem_cons_of_mem _ h)
  have hown : s.vm.findClass R_D = some m.cls := findClass_of_methodNamed B.named
  have hlocks := B.notSynchronized
  have hin : meth.name = "<init>" := (name_of_methodNamed B.named B.method).1
  have hl := lv_entry ([.ref a0]) (n := 2) (Nat.le_of_ble_eq_true rfl)
  rw [lg_entry_eq]
  generalize (lg_sl ([.ref a0]) ++ List.replicate (2 - (lg_sl ([.ref a0])).length) Slot.unset).toArray = ls at hl ⊢
  have hl : lv_has ls 2 [(0, .ref a0)] := hl
  subst hsz
  unfold iQ
  have hD := hD0.self (sz := s.heap.size)
  generalize hAe : va_A [(a0, .inr (1, fsD))] s.heap.size = A at hD ⊢
  have hA : ∀ q : Nat, s.heap.size ≤ q → A q := fun q h => by rw [← hAe]; exact Or.inr h
  have hS : va_S A s.heap s.heap [] := va_S.rf
  refine lv_aload_n hx hb d_D_init_0 rfl (lv_at hl 0 rfl) ?_
  refine W.objInit hx hb hown (hB _ bw_32) (hB _ bw_33) (hB _ bw_34) rfl (by rw [hml]; exact hl.1) rfl d_D_init_1 (Nat.le_of_ble_eq_true rfl) (Nat.le_of_ble_eq_true rfl) ?_
  refine W.eq (g2 := F0 m 4 ls []) (rfl) ?_
  refine lv_aload_n hx hb d_D_init_4 rfl (lv_at hl 0 rfl) ?_
  refine lv_bipush (v := nI 32) hx hb d_D_init_5 (by decide) ?_
  refine va_newa (atype := .long) (ty := .long) (a0 := (32, .inr (.inl (fun _ => 0)))) (N' := 32) hx hb (hB _ bw_54) rfl hK hP hD hS hA (fun _ => rfl) (by decide) (by decide) (by decide) (Nat.le_of_ble_eq_true rfl) (Nat.le_of_ble_eq_true rfl) d_D_init_7 (fun q1 cA H hK1 hP hD hS => ?_)
  have hc9 : cA = k 1 := Option.some.inj ((hK1.2 5 _ rfl).2.symm.trans (hK.2 1 _ rfl).2)
  subst hc9
  clear hK1
  have hP : va_P (dC, dI) vwC [(a0, .inr (1, [.null, .null, .null, .int 0, .int 0])), (q1, .inl (k 1, 32, .inr (.inl (fun _ => 0))))] H := hP
  have hD : va_D A [(a0, .inr (1, [.null, .null, .null, .int 0, .int 0])), (q1, .inl (k 1, 32, .inr (.inl (fun _ => 0))))] := hD
  refine va_putF (D := (dC, dI)) (ci := 1) (v := .ref q1) (ty := (.array .long)) (C := R_D) (T := F_D) (N := 5) hx hb hB in_D tf_D ty_D nm_D hown hK hP hD hS 0 rfl rfl 0 (by decide) (hB _ bw_56) (fun _ h9 => h9) rfl hin rfl (by decide +kernel) (rfl) (rfl) (Nat.le_of_ble_eq_true rfl) d_D_init_9 (fun H locs hP hD hS => ?_)
  have hP : va_P (dC, dI) vwC [(a0, .inr (1, [.ref q1, .null, .null, .int 0, .int 0])), (q1, .inl (k 1, 32, .inr (.inl (fun _ => 0))))] H := hP
  have hD : va_D A [(a0, .inr (1, [.ref q1, .null, .null, .int 0, .int 0])), (q1, .inl (k 1, 32, .inr (.inl (fun _ => 0))))] := hD
  refine lv_aload_n hx hb d_D_init_12 rfl (lv_at hl 0 rfl) ?_
  refine lv_bipush (v := nI 32) hx hb d_D_init_13 (by decide) ?_
  refine va_newa (atype := .int) (ty := .int) (a0 := (32, .inl (fun _ => 0))) (N' := 32) hx hb (hB _ bw_55) rfl hK hP hD hS hA (fun _ => rfl) (by decide) (by decide) (by decide) (Nat.le_of_ble_eq_true rfl) (Nat.le_of_ble_eq_true rfl) d_D_init_15 (fun q2 cA H hK1 hP hD hS => ?_)
  have hc9 : cA = k 0 := Option.some.inj ((hK1.2 5 _ rfl).2.symm.trans (hK.2 0 _ rfl).2)
  subst hc9
  clear hK1
  have hP : va_P (dC, dI) vwC [(a0, .inr (1, [.ref q1, .null, .null, .int 0, .int 0])), (q1, .inl (k 1, 32, .inr (.inl (fun _ => 0)))), (q2, .inl (k 0, 32, .inl (fun _ => 0)))] H := hP
  have hD : va_D A [(a0, .inr (1, [.ref q1, .null, .null, .int 0, .int 0])), (q1, .inl (k 1, 32, .inr (.inl (fun _ => 0)))), (q2, .inl (k 0, 32, .inl (fun _ => 0)))] := hD
  refine va_putF (D := (dC, dI)) (ci := 1) (v := .ref q2) (ty := (.array .int)) (C := R_D) (T := F_D) (N := 5) hx hb hB in_D tf_D ty_D nm_D hown hK hP hD hS 0 rfl rfl 1 (by decide) (hB _ bw_57) (fun _ h9 => h9) rfl hin rfl (by decide +kernel) (rfl) (rfl) (Nat.le_of_ble_eq_true rfl) d_D_init_17 (fun H locs hP hD hS => ?_)
  have hP : va_P (dC, dI) vwC [(a0, .inr (1, [.ref q1, .ref q2, .null, .int 0, .int 0])), (q1, .inl (k 1, 32, .inr (.inl (fun _ => 0)))), (q2, .inl (k 0, 32, .inl (fun _ => 0)))] H := hP
  have hD : va_D A [(a0, .inr (1, [.ref q1, .ref q2, .null, .int 0, .int 0])), (q1, .inl (k 1, 32, .inr (.inl (fun _ => 0)))), (q2, .inl (k 0, 32, .inl (fun _ => 0)))] := hD
  refine lv_aload_n hx hb d_D_init_20 rfl (lv_at hl 0 rfl) ?_
  refine lv_bipush (v := nI 8) hx hb d_D_init_21 (by decide) ?_
  refine va_newq (N' := 8) hx hb hown (hB _ bw_35) hOv hK hP hD hS hA (by decide) (by decide) (by decide) (Nat.le_of_ble_eq_true rfl) (Nat.le_of_ble_eq_true rfl) d_D_init_23 (fun q3 cA H hK1 hP hD hS => ?_)
  obtain ⟨_, _, -, -, -, hc8⟩ := (hK1.2 5 _ rfl).2
  obtain ⟨_, _, -, -, -, hc7⟩ := (hK.2 3 _ rfl).2
  have hc9 : cA = k 3 := Option.some.inj (hc8.symm.trans hc7)
  subst hc9
  clear hK1
  have hP : va_P (dC, dI) vwC [(a0, .inr (1, [.ref q1, .ref q2, .null, .int 0, .int 0])), (q1, .inl (k 1, 32, .inr (.inl (fun _ => 0)))), (q2, .inl (k 0, 32, .inl (fun _ => 0))), (q3, .inl (k 3, 8, .inr (.inr (.inr (.inr (fun _ => none))))))] H := hP
  have hD : va_D A [(a0, .inr (1, [.ref q1, .ref q2, .null, .int 0, .int 0])), (q1, .inl (k 1, 32, .inr (.inl (fun _ => 0)))), (q2, .inl (k 0, 32, .inl (fun _ => 0))), (q3, .inl (k 3, 8, .inr (.inr (.inr (.inr (fun _ => none))))))] := hD
  refine va_putF (D := (dC, dI)) (ci := 1) (v := .ref q3) (ty := (.array (.object R_T))) (C := R_D) (T := F_D) (N := 5) hx hb hB in_D tf_D ty_D nm_D hown hK hP hD hS 0 rfl rfl 2 (by decide) (hB _ bw_58) (fun _ h9 => h9) rfl hin rfl (by decide +kernel) (rfl) (rfl) (Nat.le_of_ble_eq_true rfl) d_D_init_26 (fun H locs hP hD hS => ?_)
  have hP : va_P (dC, dI) vwC [(a0, .inr (1, [.ref q1, .ref q2, .ref q3, .int 0, .int 0])), (q1, .inl (k 1, 32, .inr (.inl (fun _ => 0)))), (q2, .inl (k 0, 32, .inl (fun _ => 0))), (q3, .inl (k 3, 8, .inr (.inr (.inr (.inr (fun _ => none))))))] H := hP
  have hD : va_D A [(a0, .inr (1, [.ref q1, .ref q2, .ref q3, .int 0, .int 0])), (q1, .inl (k 1, 32, .inr (.inl (fun _ => 0)))), (q2, .inl (k 0, 32, .inl (fun _ => 0))), (q3, .inl (k 3, 8, .inr (.inr (.inr (.inr (fun _ => none))))))] := hD
  refine lv_aload_n hx hb d_D_init_29 rfl (lv_at hl 0 rfl) ?_
  refine lv_iconst (v := 0) hx hb d_D_init_30 (by decide) ?_
  refine va_put (D := (dC, dI)) (ci := 1) (v := .int 0) (ty := .int) (C := R_D) (T := F_D) (N := 5) hx hb hB in_D tf_D ty_D nm_D hown hK hP hD hS 0 rfl rfl 3 (by decide) (hB _ bw_59) (fun _ h9 => h9) rfl (by decide +kernel) (rfl) (rfl) (Nat.le_of_ble_eq_true rfl) d_D_init_31 (fun H locs hP hD hS => ?_)
  have hP : va_P (dC, dI) vwC [(a0, .inr (1, [.ref q1, .ref q2, .ref q3, .int 0, .int 0])), (q1, .inl (k 1, 32, .inr (.inl (fun _ => 0)))), (q2, .inl (k 0, 32, .inl (fun _ => 0))), (q3, .inl (k 3, 8, .inr (.inr (.inr (.inr (fun _ => none))))))] H := hP
  have hD : va_D A [(a0, .inr (1, [.ref q1, .ref q2, .ref q3, .int 0, .int 0])), (q1, .inl (k 1, 32, .inr (.inl (fun _ => 0)))), (q2, .inl (k 0, 32, .inl (fun _ => 0))), (q3, .inl (k 3, 8, .inr (.inr (.inr (.inr (fun _ => none))))))] := hD
  refine lv_aload_n hx hb d_D_init_34 rfl (lv_at hl 0 rfl) ?_
  refine lv_iconst (v := 0) hx hb d_D_init_35 (by decide) ?_
  refine va_put (D := (dC, dI)) (ci := 1) (v := .int 0) (ty := .int) (C := R_D) (T := F_D) (N := 5) hx hb hB in_D tf_D ty_D nm_D hown hK hP hD hS 0 rfl rfl 4 (by decide) (hB _ bw_60) (fun _ h9 => h9) rfl (by decide +kernel) (rfl) (rfl) (Nat.le_of_ble_eq_true rfl) d_D_init_36 (fun H locs hP hD hS => ?_)
  have hP : va_P (dC, dI) vwC [(a0, .inr (1, [.ref q1, .ref q2, .ref q3, .int 0, .int 0])), (q1, .inl (k 1, 32, .inr (.inl (fun _ => 0)))), (q2, .inl (k 0, 32, .inl (fun _ => 0))), (q3, .inl (k 3, 8, .inr (.inr (.inr (.inr (fun _ => none))))))] H := hP
  have hD : va_D A [(a0, .inr (1, [.ref q1, .ref q2, .ref q3, .int 0, .int 0])), (q1, .inl (k 1, 32, .inr (.inl (fun _ => 0)))), (q2, .inl (k 0, 32, .inl (fun _ => 0))), (q3, .inl (k 3, 8, .inr (.inr (.inr (.inr (fun _ => none))))))] := hD
  refine lv_iconst (v := nI 0) hx hb d_D_init_39 (by decide) ?_
  refine lv_istore_n hx hb d_D_init_40 rfl hl (by decide) rfl (fun ls hl => ?_)
  have hl : lv_has ls 2 [(1, .int (nI 0)), (0, .ref a0)] := hl
  suffices key : ∀ n i (H : Heap) (locs : List Loc) (ls : Array Slot) (cells slots : Nat) (rest : va_W) (u : Nat → Nat → Nat) (f : Nat → Option Nat), i ≤ 8 → 8 - i = n → cells = 3 + 8 * i → slots = 72 + 176 * i → lv_has ls 2 [(1, .int (nI i)), (0, .ref a0)] → dMade k i rest u f → va_P (dC, dI) vwC (dh k a0 q1 q2 q3 f ++ rest) H → va_D A (dh k a0 q1 q2 q3 f ++ rest) → va_S A s.heap H locs → W p l e (headSpec w_D_init (rmx 2 67 1480 32)).room s m _ below meth c H locs cells slots (MQ below (va_Qv (fun u : Nat → Nat => u 0 = a0 ∧ va_D A (dW k u yNew)) (fun u t => va_P (dC, dI) vwC (dW k u yNew) t.heap) A) _ s 67 1480 A) (F0 m 41 ls []) from key _ 0 _ _ ls _ _ [] (fun _ _ => 0) (fun _ => none) (by omega) rfl rfl rfl hl (dMade_0 _ _ _) hP hD hS
  clear hS hP hD hl
  intro n
  induction n with
  | zero =>
    intro i H locs ls cells slots rest u f hi hn hce hsl hl hm hP hD hS
    have hie : i = 8 := by omega
    subst hie
    subst hce
    subst hsl
    refine lv_iload_n hx hb d_D_init_41 rfl (lv_at hl 0 rfl) ?_
    refine lv_bipush (v := nI 8) hx hb d_D_init_42 (by decide) ?_
    refine lv_icmp_ge hx hb d_D_init_44 rfl (fun _ => ?_) (fun h9 => absurd (nI_le (Nat.le_refl 8) (by omega)) h9)
    exact W.vret hx hb hr (fun t ht hW => ⟨⟨xaD a0 q1 q2 q3 u, rfl, ⟨rfl, dMade_D hm hD⟩, by show va_P (dC, dI) vwC _ t.heap; rw [ht]; exact dMade_P hm hP⟩, hS.F ht⟩) hS.2.2 d_D_init_66
  | succ n ih =>
    intro i H locs ls cells slots rest u f hi hn hce hsl hl hm hP hD hS
    have hlt : i < 8 := by omega
    have hCe : ∀ j, j ≤ 8 → cells + j ≤ 67 := fun j hj => by omega
    have hSl : ∀ j, j ≤ 176 → slots + j ≤ 1480 := fun j hj => by omega
    refine lv_iload_n hx hb d_D_init_41 rfl (lv_at hl 0 rfl) ?_
    refine lv_bipush (v := nI 8) hx hb d_D_init_42 (by decide) ?_
    refine lv_icmp_ge hx hb d_D_init_44 rfl (fun h9 => absurd h9 (nI_ge hlt (by omega))) (fun _ => ?_)
    refine lv_aload_n hx hb d_D_init_47 rfl (lv_at hl 1 rfl) ?_
    refine va_get (D := (dC, dI)) (ci := 1) (v := .ref q3) (C := R_D) (T := F_D) (N := 5) hx hb hB in_D hown hK hP 0 rfl rfl 2 (by decide) (hB _ bw_58) (fun _ h9 => h9) rfl d_D_init_48 ?_
    refine lv_iload_n hx hb d_D_init_51 rfl (lv_at hl 0 rfl) ?_
    refine va_new (C := R_T) (T := F_T) (N := 6) (ci := 0) (fs := fsT) hx hb hB in_T tf_T ty_T hown (hB _ bw_35) (hB _ bw_36) (hB _ bw_17) hK hP hD hS hA rfl (by decide) (hCe 1 (by omega)) (hSl 6 (by omega)) d_D_init_52 (fun q H hP hD hS => ?_)
    refine lv_dup hx hb d_D_init_55 rfl ?_
    have hFc := xw_free (H := H) hD hA hS.1
    refine va_callv (va_runIN (As := []) (rest := [.ref q, .int (nI i), .ref q3]) ⟨hx, hb, hml, hown, hB⟩ (m_T_init l dC dI k q H.size) ⟨va_cnB 0 hB (BIG_good bw_38) rfl rfl rfl hNs (hB _ bw_17) ⟨by decide, by decide, by decide +kernel⟩ ⟨Nat.le_of_ble_eq_true rfl, Nat.le_of_ble_eq_true rfl⟩, rfl, hB _ bw_37⟩ (tiPc_pre (A := A) hP hK hAO) rfl rfl hl.1 rfl (lv_room (Nat.le_of_ble_eq_true rfl)) d_D_init_56 ⟨by show cells + 1 + 7 ≤ 67; exact hCe 8 (by omega), by show slots + 6 + 170 ≤ 1480; exact hSl 176 (by omega)⟩) hS (fun x _ h => hFc x h) hFc (fun v t H1 locs ht hvm hw hB1 hz1 hk1 hS2 => ?_)
    obtain ⟨hv0, hDv⟩ := hw
    obtain ⟨hP, hD⟩ := xw_join (v := tW k v tNew) hP hD hA hS.1 (by rw [← ht]; exact hB1) hDv hk1
    clear hFc hB1 hk1 hz1 ht hvm hDv hS
    rw [List.append_assoc] at hP hD
    generalize H1 = H at hP hS2 ⊢
    refine W.eq (g2 := F0 m 59 ls [.ref q, .int (nI i), .ref q3]) (rfl) ?_
    refine va_astq (r := (R_T, F_T, 6)) (vs := [.int (bI (xO tNew)), .int (bI (xS tNew)), .int (xR tNew), .int (nI (xP tNew)), .ref (v 1), .ref (v 2)]) hx hb hK hP hD hS2 3 3 (4 + 8 * i) 0 rfl rfl (by rw [List.getElem?_append_right (by show 4 ≤ _; omega), show 4 + 8 * i - (dh k a0 q1 q2 q3 f).length = 8 * i by show 4 + 8 * i - 4 = _; omega, List.getElem?_append_right (by rw [hm.1]; exact Nat.le_refl _), hm.1, Nat.sub_self]; show some (v 0, _) = _; rw [hv0]) rfl (pk_in i 8 (by omega)) d_D_init_59 (fun H locs hP hD hS => ?_)
    rw [cl_nI (by omega)] at hP hD
    refine lv_iinc (k := 0) (v := nI (i + 1)) hx hb d_D_init_60 hl rfl (nI_1 i) (by decide) rfl (fun ls hl => ?_)
    have hl : lv_has ls 2 [(1, .int (nI (i + 1))), (0, .ref a0)] := hl
    refine lv_goto hx hb d_D_init_63 rfl ?_
    exact ih (i + 1) H locs ls _ _ (rest ++ tW k v tNew) (va_up u i v) (va_up f i (some q)) (by omega) (by omega) (by omega) (by omega) hl (dMade_s hm hv0) hP hD hS
