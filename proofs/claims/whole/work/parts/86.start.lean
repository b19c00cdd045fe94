/-! the start: what the Statement gives of it, as a world -/
theorem INV_init : INV 0 K0 0 0 0 0 0 (fun _ => 0) E0 0 0 0 0 0 0 (fun _ => 0) 0 gs0 0 ts0 3 0 0 24 :=
  ⟨⟨by decide, by decide, by decide, by decide, by decide, by decide⟩, fun i h => absurd h (Nat.not_lt_zero _), fun i _ => rfl, fun i h => absurd h (Nat.not_lt_zero _), ⟨by decide, by decide, 0, 0, by decide, by decide, by decide, by decide, by decide, by decide⟩,
    ⟨⟨fun _ => 0, fun a h => absurd h (Nat.not_lt_zero _), fun a b h => absurd h (Nat.not_lt_zero _), fun i _ h => absurd rfl h, fun i _ _ => rfl⟩, ⟨0, by decide, by decide, by decide, fun a h => absurd h (Nat.not_lt_zero _), fun a b h => absurd h (Nat.not_lt_zero _), fun a b h => absurd h (Nat.not_lt_zero _)⟩, by decide, fun j _ => Or.inl rfl, fun a h => absurd h (Nat.not_lt_zero _)⟩, rfl, fun i h => absurd h (Nat.not_lt_zero _)⟩
theorem st_zC : ∀ q ∈ zC, Cond.castable q.1 q.2 ∈ lw_tbl := by decide +kernel
theorem st_zD : ∀ y ∈ zD, Cond.declares y ∈ lw_tbl := by decide +kernel
theorem st_zN : zN ∈ lw_tbl := by decide +kernel
theorem st_zS : ∀ q ∈ zS, Cond.stringRef q.1 q.2.1 q.2.2 ∈ lw_tbl := by decide +kernel
theorem st_zSx : ∀ q ∈ zS, Cond.exactly (.string q.1 q.2.1) "java/lang/String" ∈ flatC (Jvm.Cond.and given_1 narrow_1) := by decide +kernel
theorem st_zX : ∀ q ∈ zX, Cond.not (.castable q.1 q.2) ∈ flatC (Jvm.Cond.and given_1 narrow_1) := by decide +kernel
theorem st_known {s : State} {args : Array Value} (hts : ∀ w ∈ lwG, w.before args s = true) : ∃ (dC : Nat → ClassId) (dI : Nat → Nat → Nat), ∀ (k : Nat) (q : vw_C), hcl[k]? = some q → u_Kn s q.1 q.2.1 q.2.2 (dC k) (dI k) := by
  have mk : ∀ {C : String} {T : u_T} {N : Nat}, (∀ w ∈ u_ws C T N, w ∈ lwG) → Cond.instantiable C N ∈ lwG → ∃ x : ClassId × (Nat → Nat), u_Kn s C T N x.1 x.2 := fun h1 h2 => by
    obtain ⟨c, i, h⟩ := u_known hts h1 (hts _ h2)
    exact ⟨(c, i), h⟩
  have hall : ∀ q ∈ hcl, ∃ x : ClassId × (Nat → Nat), u_Kn s q.1 q.2.1 q.2.2 x.1 x.2 := List.forall_mem_cons.mpr ⟨mk inJx4a65c q1_39, List.forall_mem_cons.mpr ⟨mk inX1 q1_65, List.forall_mem_cons.mpr ⟨mk inX2 q1_75, List.forall_mem_cons.mpr ⟨mk inX3 q3_73, List.forall_mem_cons.mpr ⟨mk inX4 q2_183, List.forall_mem_cons.mpr ⟨mk inX5 q1_131, List.forall_mem_cons.mpr ⟨mk inX6 q4_42, List.forall_mem_cons.mpr ⟨mk inX7 q1_31, List.forall_mem_cons.mpr ⟨mk inX8 q4_204, fun q h => absurd h List.not_mem_nil⟩⟩⟩⟩⟩⟩⟩⟩⟩
  have h : ∀ k : Nat, ∃ x : ClassId × (Nat → Nat), ∀ q : vw_C, hcl[k]? = some q → u_Kn s q.1 q.2.1 q.2.2 x.1 x.2 := fun k => by
    cases hq : (hcl[k]? : Option vw_C) with
    | none => exact ⟨(0, fun _ => 0), fun q h => by cases h⟩
    | some q0 =>
      obtain ⟨x, hx⟩ := hall q0 (List.mem_of_getElem? hq)
      exact ⟨x, fun q h => by cases h; exact hx⟩
  exact ⟨fun k => (Classical.choose (h k)).1, fun k => (Classical.choose (h k)).2, fun k q hq => Classical.choose_spec (h k) q hq⟩
theorem st_arr {s : State} {args : Array Value} {ty : FieldType} (h : (Cond.arrayClass ty).before args s = true) : ∃ c : ClassId, ArrOfT s c ty ∧ s.vm.findClass ("[" ++ ty.toString) = some c := by
  obtain ⟨c, k, comp, h1, h2, h3⟩ := Cond.arrayClass_spec h
  exact ⟨c, fun n z => ⟨fun k h => (by cases h), k, h2, comp, h3⟩, h1⟩
theorem st_ref {s : State} {args : Array Value} {C : String} (h : (Cond.arrayOver (.object C)).before args s = true) : ∃ c : ClassId, ArrOfT s c (.object C) ∧ va_RA s c (.object C) ∧ s.vm.findClass ("[" ++ (FieldType.object C).toString) = some c := by
  obtain ⟨comp, c, k, h1, -, h2, h3, h4⟩ := Cond.arrayOver_spec h
  exact ⟨c, fun n z => ⟨fun k h => (by cases h), k, h2, comp, h3⟩, ⟨k, comp, h2, h3, h1, h4⟩, h4⟩
theorem st_KK {s : State} {b : Nat} (hts0 : ∀ w ∈ lw_tbl, w.before #[.ref b] s = true) (hgv : (Jvm.Cond.and given_1 narrow_1).before #[.ref b] s = true) : ∃ (Γ : Gm) (f0 : Hm), KK Γ s ∧ hm_O Γ s.heap ∧ hm_H Γ f0 s.heap ∧ gB Γ = s.heap.size := by
  have hs := flat_of_before _ hgv
  have hts : ∀ w ∈ lwG, w.before #[.ref b] s = true := fun w hw => hts0 w (List.mem_filter.mp hw).1
  have htT : ∀ w ∈ tables_1, w.before #[.ref b] s = true := fun w hw => hts0 w (List.mem_append_right _ hw)
  obtain ⟨dC, dI, hKc⟩ := st_known hts
  obtain ⟨c0, a0, n0⟩ := st_arr (hts _ q5_108)
  obtain ⟨c1, a1, n1⟩ := st_arr (hts _ q5_109)
  obtain ⟨c2, a2, n2⟩ := st_arr (hts _ q5_110)
  obtain ⟨c5, a5, n5⟩ := st_arr (hts _ q6_97)
  obtain ⟨c3, a3, n3, -⟩ := st_ref (htT _ q1_74)
  obtain ⟨c4, a4, n4, n9⟩ := st_ref (htT _ q3_13)
  obtain ⟨mi, hmi⟩ := va_Mi.of (args := #[.ref b]) (C := "[Ljava/lang/Object;") (hs (.isRef (.mirror "[Ljava/lang/Object;")) (by decide +kernel))
  have hA : ∀ a : Nat, a < s.heap.size → ¬ s.heap.size ≤ a := fun a h => Nat.not_le.mpr h
  obtain ⟨e, ce, cell, ke, he, hfc, hcell, -, hst, hcls, -⟩ := Cond.exactly_spec (hs (.exactly (.static "java/util/ArrayList" "DEFAULTCAPACITY_EMPTY_ELEMENTDATA" "[Ljava/lang/Object;") "[Ljava/lang/Object;") (by decide +kernel))
  have hlen := va_eqt (hs (.eq (.length (.static "java/util/ArrayList" "DEFAULTCAPACITY_EMPTY_ELEMENTDATA" "[Ljava/lang/Object;")) (.int 0)) (by decide +kernel))
  obtain ⟨e2, cell2, h1, h2, h3⟩ := Term.length_spec hlen
  cases he.symm.trans h1
  cases hcell.symm.trans (State.arrayAt?_spec h2).1
  have hsz : cell.slots.size.toInt32 = 0 := (Value.int.inj h3).symm
  have hcls4 : cell.cls = c4 := by
    rw [show "[" ++ (FieldType.object "java/lang/Object").toString = "[Ljava/lang/Object;" from by decide +kernel] at n9
    exact hcls.trans (Option.some.inj (hfc.symm.trans n9))
  have hall : ∀ q ∈ ([(c0, .int), (c1, .long), (c2, .boolean), (c3, .object "TileWarden$Entry"), (c4, .object "java/lang/Object"), (c5, .double)] : List (ClassId × FieldType)), ArrOfT s q.1 q.2 ∧ va_RA s q.1 q.2 := List.forall_mem_cons.mpr ⟨⟨a0, n0⟩, List.forall_mem_cons.mpr ⟨⟨a1, n1⟩, List.forall_mem_cons.mpr ⟨⟨a2, n2⟩, List.forall_mem_cons.mpr ⟨⟨a3, n3⟩, List.forall_mem_cons.mpr ⟨⟨a4, n4⟩, List.forall_mem_cons.mpr ⟨⟨a5, n5⟩, fun q h => absurd h List.not_mem_nil⟩⟩⟩⟩⟩⟩
  refine ⟨((dC, dI), (fun k => match k with | 0 => c0 | 1 => c1 | 2 => c2 | 3 => c3 | 4 => c4 | 5 => c5 | _ => mi), s.heap.size, e, s.heap), (fun q => if q = e then some (.inl (c4, 0, .inr (.inr (.inr (.inr fun _ => none))))) else none), ⟨⟨hKc, fun k q hk => hall q (List.mem_of_getElem? hk)⟩, ⟨va_Zref (htT _ q1_51) (hts _ q1_4) he hA, vx_Zqof (htT _ q2_122) (hts _ q1_10) (hs _ (by decide +kernel)) hA, vx_Zqof (htT _ q2_124) (hts _ q1_10) (hs _ (by decide +kernel)) hA⟩, ⟨fun q hq => va_Nw.of rfl (hts0 _ (st_zC q hq)), fun y hy => va_Nw.of rfl (hts0 _ (st_zD y hy)), va_Nw.of rfl (hts0 _ st_zN)⟩, ?_, fun q hq => va_Nc.of (hs _ (st_zX q hq)), ⟨va_AO.of (htT _ q1_74), va_AO.of (htT _ q3_13)⟩, hmi⟩, ⟨Nat.le_refl _, fun _ _ => rfl⟩, ⟨?_, if_pos rfl, (Array.getElem?_eq_some_iff.mp hcell).1⟩, rfl⟩
  · intro q hq
    obtain ⟨a, c, cl, k, g1, -⟩ := Cond.exactly_spec (hs _ (st_zSx q hq))
    exact ⟨a, vk_R.of (hts0 _ (st_zS q hq)) g1⟩
  · intro a x hx
    have ha : a = e := by
      by_cases h : a = e
      · exact h
      · simp only [if_neg h] at hx
        cases hx
    exact ⟨⟨fun hn => absurd ha hn, fun _ => ⟨cell, by rw [ha]; exact hcell, hcls4, hst, hsz⟩⟩, Or.inl ha⟩
