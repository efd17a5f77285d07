/-! The start, as the walk needs it. -/
theorem st_str {b : Nat} {s : State} {own tx : String} {i : Nat} (h1 : (Cond.stringRef own i tx).before #[Value.ref b] s = true) (h2 : (Cond.exactly (.string own i) "java/lang/String").before #[Value.ref b] s = true) : ∃ sa : Nat, vk_R own i tx sa s := by
  obtain ⟨a, c, cell, k, ev, -⟩ := Cond.exactly_spec h2
  exact ⟨a, vk_R.of h1 ev⟩
set_option maxRecDepth 100000 in
set_option maxHeartbeats 4000000 in
theorem st_Th {s : State} {b : Nat} (hts : ∀ w ∈ lw_tbl, w.before #[Value.ref b] s = true) (hfl : ∀ w ∈ flatC (Jvm.Cond.and given_1 narrow_1), w.before #[Value.ref b] s = true) : xTh s := by
  refine ⟨fun w hw => xs_at (List.all_eq_true.mp xL_all w hw) (State.WarmedH.refl s) (hts w (xL_in w hw)), xs_F.of (A := #[Value.ref b]) (hts _ (List.mem_of_getElem? (i := 121) (by decide +kernel))) (hfl _ (List.mem_of_getElem? (i := 4) (by decide +kernel))), xs_F.of (A := #[Value.ref b]) (hts _ (List.mem_of_getElem? (i := 123) (by decide +kernel))) (hfl _ (List.mem_of_getElem? (i := 5) (by decide +kernel))), ?_⟩
  exact (List.forall_mem_cons.mpr ⟨st_str (hts _ (List.mem_of_getElem? (i := 176) (by decide +kernel))) (hfl _ (List.mem_of_getElem? (i := 53) (by decide +kernel))), (List.forall_mem_cons.mpr ⟨st_str (hts _ (List.mem_of_getElem? (i := 257) (by decide +kernel))) (hfl _ (List.mem_of_getElem? (i := 133) (by decide +kernel))), (List.forall_mem_cons.mpr ⟨st_str (hts _ (List.mem_of_getElem? (i := 294) (by decide +kernel))) (hfl _ (List.mem_of_getElem? (i := 166) (by decide +kernel))), (List.forall_mem_cons.mpr ⟨st_str (hts _ (List.mem_of_getElem? (i := 377) (by decide +kernel))) (hfl _ (List.mem_of_getElem? (i := 217) (by decide +kernel))), (List.forall_mem_cons.mpr ⟨st_str (hts _ (List.mem_of_getElem? (i := 136) (by decide +kernel))) (hfl _ (List.mem_of_getElem? (i := 30) (by decide +kernel))), (List.forall_mem_cons.mpr ⟨st_str (hts _ (List.mem_of_getElem? (i := 213) (by decide +kernel))) (hfl _ (List.mem_of_getElem? (i := 81) (by decide +kernel))), (List.forall_mem_cons.mpr ⟨st_str (hts _ (List.mem_of_getElem? (i := 224) (by decide +kernel))) (hfl _ (List.mem_of_getElem? (i := 99) (by decide +kernel))), (List.forall_mem_cons.mpr ⟨st_str (hts _ (List.mem_of_getElem? (i := 310) (by decide +kernel))) (hfl _ (List.mem_of_getElem? (i := 190) (by decide +kernel))), (fun _ h => absurd h List.not_mem_nil)⟩)⟩)⟩)⟩)⟩)⟩)⟩)⟩)
set_option maxRecDepth 100000 in
set_option maxHeartbeats 4000000 in
theorem st_Ct {s : State} {b : Nat} (hts : ∀ w ∈ lw_tbl, w.before #[Value.ref b] s = true) (hfl : ∀ w ∈ flatC (Jvm.Cond.and given_1 narrow_1), w.before #[Value.ref b] s = true) : xCt s := by
  exact ⟨(List.forall_mem_cons.mpr ⟨xs_at (A := #[Value.ref b]) (by decide +kernel) (State.WarmedH.refl s) (hts _ (List.mem_of_getElem? (i := 96) (by decide +kernel))), (List.forall_mem_cons.mpr ⟨xs_at (A := #[Value.ref b]) (by decide +kernel) (State.WarmedH.refl s) (hts _ (List.mem_of_getElem? (i := 169) (by decide +kernel))), (List.forall_mem_cons.mpr ⟨xs_at (A := #[Value.ref b]) (by decide +kernel) (State.WarmedH.refl s) (hts _ (List.mem_of_getElem? (i := 206) (by decide +kernel))), (List.forall_mem_cons.mpr ⟨xs_at (A := #[Value.ref b]) (by decide +kernel) (State.WarmedH.refl s) (hts _ (List.mem_of_getElem? (i := 250) (by decide +kernel))), (fun _ h => absurd h List.not_mem_nil)⟩)⟩)⟩)⟩), (List.forall_mem_cons.mpr ⟨xn_at (A := #[Value.ref b]) (State.WarmedH.refl s) (hfl _ (List.mem_of_getElem? (i := 15) (by decide +kernel))), (List.forall_mem_cons.mpr ⟨xn_at (A := #[Value.ref b]) (State.WarmedH.refl s) (hfl _ (List.mem_of_getElem? (i := 21) (by decide +kernel))), (List.forall_mem_cons.mpr ⟨xn_at (A := #[Value.ref b]) (State.WarmedH.refl s) (hfl _ (List.mem_of_getElem? (i := 27) (by decide +kernel))), (List.forall_mem_cons.mpr ⟨xn_at (A := #[Value.ref b]) (State.WarmedH.refl s) (hfl _ (List.mem_of_getElem? (i := 9) (by decide +kernel))), (List.forall_mem_cons.mpr ⟨xn_at (A := #[Value.ref b]) (State.WarmedH.refl s) (hfl _ (List.mem_of_getElem? (i := 22) (by decide +kernel))), (List.forall_mem_cons.mpr ⟨xn_at (A := #[Value.ref b]) (State.WarmedH.refl s) (hfl _ (List.mem_of_getElem? (i := 28) (by decide +kernel))), (List.forall_mem_cons.mpr ⟨xn_at (A := #[Value.ref b]) (State.WarmedH.refl s) (hfl _ (List.mem_of_getElem? (i := 10) (by decide +kernel))), (List.forall_mem_cons.mpr ⟨xn_at (A := #[Value.ref b]) (State.WarmedH.refl s) (hfl _ (List.mem_of_getElem? (i := 16) (by decide +kernel))), (List.forall_mem_cons.mpr ⟨xn_at (A := #[Value.ref b]) (State.WarmedH.refl s) (hfl _ (List.mem_of_getElem? (i := 29) (by decide +kernel))), (List.forall_mem_cons.mpr ⟨xn_at (A := #[Value.ref b]) (State.WarmedH.refl s) (hfl _ (List.mem_of_getElem? (i := 11) (by decide +kernel))), (List.forall_mem_cons.mpr ⟨xn_at (A := #[Value.ref b]) (State.WarmedH.refl s) (hfl _ (List.mem_of_getElem? (i := 17) (by decide +kernel))), (List.forall_mem_cons.mpr ⟨xn_at (A := #[Value.ref b]) (State.WarmedH.refl s) (hfl _ (List.mem_of_getElem? (i := 23) (by decide +kernel))), (fun _ h => absurd h List.not_mem_nil)⟩)⟩)⟩)⟩)⟩)⟩)⟩)⟩)⟩)⟩)⟩)⟩)⟩
def xk5 (c0 c1 c2 c3 c4 : ClassId) : Nat → ClassId
  | 0 => c0
  | 1 => c1
  | 2 => c2
  | 3 => c3
  | _ => c4
def xd3 (c0 c1 c2 : ClassId) : Nat → ClassId
  | 0 => c0
  | 1 => c1
  | _ => c2
def xi3 (i0 i1 i2 : Nat → Nat) : Nat → Nat → Nat
  | 0 => i0
  | 1 => i1
  | _ => i2
set_option maxRecDepth 100000 in
set_option maxHeartbeats 4000000 in
theorem st_K {s : State} {b : Nat} (hts : ∀ w ∈ lw_tbl, w.before #[Value.ref b] s = true) : ∃ (dC : Nat → ClassId) (dI : Nat → Nat → Nat) (k : Nat → ClassId), va_K (dC, dI) vwC (kT k) s ∧ xAO k s := by
  have hB : ∀ w ∈ BIG, w.before #[Value.ref b] s = true := fun w h => hts w (BIG_in w h)
  obtain ⟨cT, iT, hT⟩ := u_known hB in_T (hB _ bw_36)
  obtain ⟨cD, iD, hD⟩ := u_known hB in_D (hB _ bw_28)
  obtain ⟨cM, iM, hM⟩ := u_known hB in_M (hB _ bw_350)
  obtain ⟨cI, kI, pI, f1, f2, f3⟩ := Cond.arrayClass_spec (hB _ bw_55)
  obtain ⟨cJ, kJ, pJ, g1, g2, g3⟩ := Cond.arrayClass_spec (hB _ bw_54)
  obtain ⟨cZ, kZ, pZ, z1, z2, z3⟩ := Cond.arrayClass_spec (hB _ bw_378)
  obtain ⟨pA, cA, kA, a1, -, a2, a3, a4⟩ := arrayOverA_spec (t := .long) (hts _ (List.mem_of_getElem? (i := 43) (by decide +kernel)))
  obtain ⟨pO, cO, kO, o1, -, o2, o3, o4⟩ := Cond.arrayOver_spec (n := R_T) (hts _ (List.mem_of_getElem? (i := 36) (by decide +kernel)))
  have hp : pA = cJ := Option.some.inj (a1.symm.trans g1)
  subst hp
  refine ⟨xd3 cT cD cM, xi3 iT iD iM, xk5 cI pA cA cO cZ, ⟨fun c q hq => ?_, fun i q hq => ?_⟩, kA, a2, a3⟩
  · rcases c with _ | _ | _ | c
    · cases hq; exact hT
    · cases hq; exact hD
    · cases hq; exact hM
    · cases hq
  · rcases i with _ | _ | _ | _ | _ | i
    · cases hq; exact ⟨fun n z => ⟨fun k h => (by cases h), kI, f2, pI, f3⟩, f1⟩
    · cases hq; exact ⟨fun n z => ⟨fun k h => (by cases h), kJ, g2, pJ, g3⟩, g1⟩
    · cases hq; exact ⟨fun n z => ⟨fun k h => (by cases h), kA, a2, pA, a3⟩, a4⟩
    · cases hq; exact ⟨fun n z => ⟨fun k h => (by cases h), kO, o2, pO, o3⟩, kO, pO, o2, o3, o1, o4⟩
    · cases hq; exact ⟨fun n z => ⟨fun k h => (by cases h), kZ, z2, pZ, z3⟩, z1⟩
    · cases hq
theorem st_AO {s : State} {b : Nat} (hts : ∀ w ∈ lw_tbl, w.before #[Value.ref b] s = true) : va_AO R_T s := va_AO.of (hts _ (List.mem_of_getElem? (i := 36) (by decide +kernel)))
theorem st_Ns {s : State} {b : Nat} (hts : ∀ w ∈ lw_tbl, w.before #[Value.ref b] s = true) : va_Nw xNest s := va_Nw.of rfl (hts _ (List.mem_of_getElem? (i := 38) (by decide +kernel)))
