/-! the model's making, walked -/
set_option maxHeartbeats 4000000 in
set_option maxRecDepth 100000 in
theorem c_X8_init (Γ : Gm) (l : Launch) (m0 : Nat) (f : Hm) (hm0 : f m0 = some (eR 8 [.null, .null, .null, .null, .null, .null, .null, .null, .null, .null, .null, .null, .null, .null, .null, .null, .null, .null, .null, .null, .null, .null, .null, .null, .null, .null, .null, .null, .int 0, .int 0, .int 0, .int 0, .int 0, .int 0, .int 0, .int 0, .int 0, .int 0, .int 0, .int 0, .int 0, .int 0, .int 0, .int 0, .long 0, .long 0])) : Ct Γ l yX8_init cX8_init 1 (none : Option Jvm.ClassFile.FieldType) 1 28 806 [.ref m0] f (fun v f' => v = none ∧ ∃ r : Nat → Nat, rI r ∧ MW Γ f' m0 r 0 K0 0 0 0 0 0 0 (fun _ => 0) 0 gs0 0 ts0 3 0 0 24 ∧ hm_k (fun q => q = m0) f f') := by
  refine Ct_of (by decide +kernel) (Nat.le_of_ble_eq_true rfl) ?_
  intro p e s m args below meth c hx hb hr hml hown hin hlocks hts hH hO hK ls hl
  have hl : lv_has ls 1 [(0, .ref m0)] := hl
  have hS : va_S (gA Γ) s.heap s.heap [] := va_S.rf
  have al0 : alv [] f := fun _ h => absurd h List.not_mem_nil
  have nd0 : List.Nodup ([] : List Nat) := List.nodup_nil
  have hk0 : hm_k (fun q => q = m0) f f := hm_k.rf
  refine lv_aload_n hx hb dX8_init_0 rfl (lv_at hl 0 rfl) ?_
  refine W.objInit hx hb hown (hts _ q4_208) (hts _ q1_36) (hts _ q1_37) rfl (by rw [hml]; exact hl.1) rfl dX8_init_1 (Nat.le_of_ble_eq_true rfl) (Nat.le_of_ble_eq_true rfl) ?_
  refine W.eq (g2 := F0 m 4 ls []) rfl ?_
  refine lv_aload_n hx hb dX8_init_4 rfl (lv_at hl 0 rfl) ?_
  refine lv_iconst (v := 4) hx hb dX8_init_5 (by decide) ?_
  refine hm_newI hx hb hts hK hO hS hH (N' := 4) (by decide) (by decide) (by decide) (Nat.le_of_ble_eq_true rfl) (Nat.le_of_ble_eq_true rfl) dX8_init_6 (fun q1 H hH hn_q1 hb_q1 hS => ?_)
  obtain ⟨f2, ef2⟩ : ∃ zz_, zz_ = hm_up f q1 (eI Γ 4 (fun _ => 0)) := ⟨_, rfl⟩
  have hH : hm_H Γ f2 H := by rw [ef2]; exact hH
  have h3 : f2 q1 = some (eI Γ 4 (fun _ => 0)) := by rw [ef2]; exact hm_us
  have h4 : f2 m0 = some (eR 8 [.null, .null, .null, .null, .null, .null, .null, .null, .null, .null, .null, .null, .null, .null, .null, .null, .null, .null, .null, .null, .null, .null, .null, .null, .null, .null, .null, .null, .int 0, .int 0, .int 0, .int 0, .int 0, .int 0, .int 0, .int 0, .int 0, .int 0, .int 0, .int 0, .int 0, .int 0, .int 0, .int 0, .long 0, .long 0]) := by rw [ef2]; exact (hm_un (hm_nn hm0 hn_q1)).trans hm0
  have nd6 : List.Nodup [q1] := List.nodup_cons.mpr ⟨al0.not hn_q1, nd0⟩
  have al5 : alv [q1] f2 := by rw [ef2]; exact al0.new
  have hk7 : hm_k (fun q => q = m0) f f2 := by rw [ef2]; exact hk0.upG hn_q1
  refine pF_X8_7 hx hb hts hown hin hK hO hS hH h4 rfl (Nat.le_of_ble_eq_true rfl) rfl dX8_init_8 (fun H locs hH hS => ?_)
  obtain ⟨f8, ef8⟩ : ∃ zz_, zz_ = hm_up f2 m0 (eR 8 [.ref q1, .null, .null, .null, .null, .null, .null, .null, .null, .null, .null, .null, .null, .null, .null, .null, .null, .null, .null, .null, .null, .null, .null, .null, .null, .null, .null, .null, .int 0, .int 0, .int 0, .int 0, .int 0, .int 0, .int 0, .int 0, .int 0, .int 0, .int 0, .int 0, .int 0, .int 0, .int 0, .int 0, .long 0, .long 0]) := ⟨_, rfl⟩
  have hH : hm_H Γ f8 H := by rw [ef8]; exact hH
  have h9 : f8 m0 = some (eR 8 [.ref q1, .null, .null, .null, .null, .null, .null, .null, .null, .null, .null, .null, .null, .null, .null, .null, .null, .null, .null, .null, .null, .null, .null, .null, .null, .null, .null, .null, .int 0, .int 0, .int 0, .int 0, .int 0, .int 0, .int 0, .int 0, .int 0, .int 0, .int 0, .int 0, .int 0, .int 0, .int 0, .int 0, .long 0, .long 0]) := by rw [ef8]; exact hm_us
  have h10 : f8 q1 = some (eI Γ 4 (fun _ => 0)) := by rw [ef8]; exact (hm_un (hm_ne h3 h4 (fun q => by cases q))).trans h3
  have al11 : alv [q1] f8 := by rw [ef8]; exact al5.up
  have hk12 : hm_k (fun q => q = m0) f f8 := by rw [ef8]; exact hk7.up rfl
  refine lv_aload_n hx hb dX8_init_11 rfl (lv_at hl 0 rfl) ?_
  refine lv_bipush (v := 8) hx hb dX8_init_12 (by decide) ?_
  refine hm_newJ hx hb hts hK hO hS hH (N' := 8) (by decide) (by decide) (by decide) (Nat.le_of_ble_eq_true rfl) (Nat.le_of_ble_eq_true rfl) dX8_init_14 (fun q13 H hH hn_q13 hb_q13 hS => ?_)
  obtain ⟨f14, ef14⟩ : ∃ zz_, zz_ = hm_up f8 q13 (eJ Γ 8 (fun _ => 0)) := ⟨_, rfl⟩
  have hH : hm_H Γ f14 H := by rw [ef14]; exact hH
  have h15 : f14 q13 = some (eJ Γ 8 (fun _ => 0)) := by rw [ef14]; exact hm_us
  have h16 : f14 m0 = some (eR 8 [.ref q1, .null, .null, .null, .null, .null, .null, .null, .null, .null, .null, .null, .null, .null, .null, .null, .null, .null, .null, .null, .null, .null, .null, .null, .null, .null, .null, .null, .int 0, .int 0, .int 0, .int 0, .int 0, .int 0, .int 0, .int 0, .int 0, .int 0, .int 0, .int 0, .int 0, .int 0, .int 0, .int 0, .long 0, .long 0]) := by rw [ef14]; exact (hm_un (hm_nn h9 hn_q13)).trans h9
  have h17 : f14 q1 = some (eI Γ 4 (fun _ => 0)) := by rw [ef14]; exact (hm_un (hm_nn h10 hn_q13)).trans h10
  have nd19 : List.Nodup [q13, q1] := List.nodup_cons.mpr ⟨al11.not hn_q13, nd6⟩
  have al18 : alv [q13, q1] f14 := by rw [ef14]; exact al11.new
  have hk20 : hm_k (fun q => q = m0) f f14 := by rw [ef14]; exact hk12.upG hn_q13
  refine pF_X8_13 hx hb hts hown hin hK hO hS hH h16 rfl (Nat.le_of_ble_eq_true rfl) rfl dX8_init_16 (fun H locs hH hS => ?_)
  obtain ⟨f21, ef21⟩ : ∃ zz_, zz_ = hm_up f14 m0 (eR 8 [.ref q1, .ref q13, .null, .null, .null, .null, .null, .null, .null, .null, .null, .null, .null, .null, .null, .null, .null, .null, .null, .null, .null, .null, .null, .null, .null, .null, .null, .null, .int 0, .int 0, .int 0, .int 0, .int 0, .int 0, .int 0, .int 0, .int 0, .int 0, .int 0, .int 0, .int 0, .int 0, .int 0, .int 0, .long 0, .long 0]) := ⟨_, rfl⟩
  have hH : hm_H Γ f21 H := by rw [ef21]; exact hH
  have h22 : f21 m0 = some (eR 8 [.ref q1, .ref q13, .null, .null, .null, .null, .null, .null, .null, .null, .null, .null, .null, .null, .null, .null, .null, .null, .null, .null, .null, .null, .null, .null, .null, .null, .null, .null, .int 0, .int 0, .int 0, .int 0, .int 0, .int 0, .int 0, .int 0, .int 0, .int 0, .int 0, .int 0, .int 0, .int 0, .int 0, .int 0, .long 0, .long 0]) := by rw [ef21]; exact hm_us
  have h23 : f21 q1 = some (eI Γ 4 (fun _ => 0)) := by rw [ef21]; exact (hm_un (hm_ne h17 h16 (fun q => by cases q))).trans h17
  have h24 : f21 q13 = some (eJ Γ 8 (fun _ => 0)) := by rw [ef21]; exact (hm_un (hm_ne h15 h16 (fun q => by cases q))).trans h15
  have al25 : alv [q13, q1] f21 := by rw [ef21]; exact al18.up
  have hk26 : hm_k (fun q => q = m0) f f21 := by rw [ef21]; exact hk20.up rfl
  refine lv_aload_n hx hb dX8_init_19 rfl (lv_at hl 0 rfl) ?_
  refine lv_bipush (v := 8) hx hb dX8_init_20 (by decide) ?_
  refine hm_newI hx hb hts hK hO hS hH (N' := 8) (by decide) (by decide) (by decide) (Nat.le_of_ble_eq_true rfl) (Nat.le_of_ble_eq_true rfl) dX8_init_22 (fun q27 H hH hn_q27 hb_q27 hS => ?_)
  obtain ⟨f28, ef28⟩ : ∃ zz_, zz_ = hm_up f21 q27 (eI Γ 8 (fun _ => 0)) := ⟨_, rfl⟩
  have hH : hm_H Γ f28 H := by rw [ef28]; exact hH
  have h29 : f28 q27 = some (eI Γ 8 (fun _ => 0)) := by rw [ef28]; exact hm_us
  have h30 : f28 m0 = some (eR 8 [.ref q1, .ref q13, .null, .null, .null, .null, .null, .null, .null, .null, .null, .null, .null, .null, .null, .null, .null, .null, .null, .null, .null, .null, .null, .null, .null, .null, .null, .null, .int 0, .int 0, .int 0, .int 0, .int 0, .int 0, .int 0, .int 0, .int 0, .int 0, .int 0, .int 0, .int 0, .int 0, .int 0, .int 0, .long 0, .long 0]) := by rw [ef28]; exact (hm_un (hm_nn h22 hn_q27)).trans h22
  have h31 : f28 q1 = some (eI Γ 4 (fun _ => 0)) := by rw [ef28]; exact (hm_un (hm_nn h23 hn_q27)).trans h23
  have h32 : f28 q13 = some (eJ Γ 8 (fun _ => 0)) := by rw [ef28]; exact (hm_un (hm_nn h24 hn_q27)).trans h24
  have nd34 : List.Nodup [q27, q13, q1] := List.nodup_cons.mpr ⟨al25.not hn_q27, nd19⟩
  have al33 : alv [q27, q13, q1] f28 := by rw [ef28]; exact al25.new
  have hk35 : hm_k (fun q => q = m0) f f28 := by rw [ef28]; exact hk26.upG hn_q27
  refine pF_X8_17 hx hb hts hown hin hK hO hS hH h30 rfl (Nat.le_of_ble_eq_true rfl) rfl dX8_init_24 (fun H locs hH hS => ?_)
  obtain ⟨f36, ef36⟩ : ∃ zz_, zz_ = hm_up f28 m0 (eR 8 [.ref q1, .ref q13, .ref q27, .null, .null, .null, .null, .null, .null, .null, .null, .null, .null, .null, .null, .null, .null, .null, .null, .null, .null, .null, .null, .null, .null, .null, .null, .null, .int 0, .int 0, .int 0, .int 0, .int 0, .int 0, .int 0, .int 0, .int 0, .int 0, .int 0, .int 0, .int 0, .int 0, .int 0, .int 0, .long 0, .long 0]) := ⟨_, rfl⟩
  have hH : hm_H Γ f36 H := by rw [ef36]; exact hH
  have h37 : f36 m0 = some (eR 8 [.ref q1, .ref q13, .ref q27, .null, .null, .null, .null, .null, .null, .null, .null, .null, .null, .null, .null, .null, .null, .null, .null, .null, .null, .null, .null, .null, .null, .null, .null, .null, .int 0, .int 0, .int 0, .int 0, .int 0, .int 0, .int 0, .int 0, .int 0, .int 0, .int 0, .int 0, .int 0, .int 0, .int 0, .int 0, .long 0, .long 0]) := by rw [ef36]; exact hm_us
  have h38 : f36 q1 = some (eI Γ 4 (fun _ => 0)) := by rw [ef36]; exact (hm_un (hm_ne h31 h30 (fun q => by cases q))).trans h31
  have h39 : f36 q13 = some (eJ Γ 8 (fun _ => 0)) := by rw [ef36]; exact (hm_un (hm_ne h32 h30 (fun q => by cases q))).trans h32
  have h40 : f36 q27 = some (eI Γ 8 (fun _ => 0)) := by rw [ef36]; exact (hm_un (hm_ne h29 h30 (fun q => by cases q))).trans h29
  have al41 : alv [q27, q13, q1] f36 := by rw [ef36]; exact al33.up
  have hk42 : hm_k (fun q => q = m0) f f36 := by rw [ef36]; exact hk35.up rfl
  refine lv_aload_n hx hb dX8_init_27 rfl (lv_at hl 0 rfl) ?_
  refine lv_bipush (v := 8) hx hb dX8_init_28 (by decide) ?_
  refine hm_newI hx hb hts hK hO hS hH (N' := 8) (by decide) (by decide) (by decide) (Nat.le_of_ble_eq_true rfl) (Nat.le_of_ble_eq_true rfl) dX8_init_30 (fun q43 H hH hn_q43 hb_q43 hS => ?_)
  obtain ⟨f44, ef44⟩ : ∃ zz_, zz_ = hm_up f36 q43 (eI Γ 8 (fun _ => 0)) := ⟨_, rfl⟩
  have hH : hm_H Γ f44 H := by rw [ef44]; exact hH
  have h45 : f44 q43 = some (eI Γ 8 (fun _ => 0)) := by rw [ef44]; exact hm_us
  have h46 : f44 m0 = some (eR 8 [.ref q1, .ref q13, .ref q27, .null, .null, .null, .null, .null, .null, .null, .null, .null, .null, .null, .null, .null, .null, .null, .null, .null, .null, .null, .null, .null, .null, .null, .null, .null, .int 0, .int 0, .int 0, .int 0, .int 0, .int 0, .int 0, .int 0, .int 0, .int 0, .int 0, .int 0, .int 0, .int 0, .int 0, .int 0, .long 0, .long 0]) := by rw [ef44]; exact (hm_un (hm_nn h37 hn_q43)).trans h37
  have h47 : f44 q1 = some (eI Γ 4 (fun _ => 0)) := by rw [ef44]; exact (hm_un (hm_nn h38 hn_q43)).trans h38
  have h48 : f44 q13 = some (eJ Γ 8 (fun _ => 0)) := by rw [ef44]; exact (hm_un (hm_nn h39 hn_q43)).trans h39
  have h49 : f44 q27 = some (eI Γ 8 (fun _ => 0)) := by rw [ef44]; exact (hm_un (hm_nn h40 hn_q43)).trans h40
  have nd51 : List.Nodup [q43, q27, q13, q1] := List.nodup_cons.mpr ⟨al41.not hn_q43, nd34⟩
  have al50 : alv [q43, q27, q13, q1] f44 := by rw [ef44]; exact al41.new
  have hk52 : hm_k (fun q => q = m0) f f44 := by rw [ef44]; exact hk42.upG hn_q43
  refine pF_X8_20 hx hb hts hown hin hK hO hS hH h46 rfl (Nat.le_of_ble_eq_true rfl) rfl dX8_init_32 (fun H locs hH hS => ?_)
  obtain ⟨f53, ef53⟩ : ∃ zz_, zz_ = hm_up f44 m0 (eR 8 [.ref q1, .ref q13, .ref q27, .ref q43, .null, .null, .null, .null, .null, .null, .null, .null, .null, .null, .null, .null, .null, .null, .null, .null, .null, .null, .null, .null, .null, .null, .null, .null, .int 0, .int 0, .int 0, .int 0, .int 0, .int 0, .int 0, .int 0, .int 0, .int 0, .int 0, .int 0, .int 0, .int 0, .int 0, .int 0, .long 0, .long 0]) := ⟨_, rfl⟩
  have hH : hm_H Γ f53 H := by rw [ef53]; exact hH
  have h54 : f53 m0 = some (eR 8 [.ref q1, .ref q13, .ref q27, .ref q43, .null, .null, .null, .null, .null, .null, .null, .null, .null, .null, .null, .null, .null, .null, .null, .null, .null, .null, .null, .null, .null, .null, .null, .null, .int 0, .int 0, .int 0, .int 0, .int 0, .int 0, .int 0, .int 0, .int 0, .int 0, .int 0, .int 0, .int 0, .int 0, .int 0, .int 0, .long 0, .long 0]) := by rw [ef53]; exact hm_us
  have h55 : f53 q1 = some (eI Γ 4 (fun _ => 0)) := by rw [ef53]; exact (hm_un (hm_ne h47 h46 (fun q => by cases q))).trans h47
  have h56 : f53 q13 = some (eJ Γ 8 (fun _ => 0)) := by rw [ef53]; exact (hm_un (hm_ne h48 h46 (fun q => by cases q))).trans h48
  have h57 : f53 q27 = some (eI Γ 8 (fun _ => 0)) := by rw [ef53]; exact (hm_un (hm_ne h49 h46 (fun q => by cases q))).trans h49
  have h58 : f53 q43 = some (eI Γ 8 (fun _ => 0)) := by rw [ef53]; exact (hm_un (hm_ne h45 h46 (fun q => by cases q))).trans h45
  have al59 : alv [q43, q27, q13, q1] f53 := by rw [ef53]; exact al50.up
  have hk60 : hm_k (fun q => q = m0) f f53 := by rw [ef53]; exact hk52.up rfl
  refine lv_aload_n hx hb dX8_init_35 rfl (lv_at hl 0 rfl) ?_
  refine lv_bipush (v := 8) hx hb dX8_init_36 (by decide) ?_
  refine hm_newI hx hb hts hK hO hS hH (N' := 8) (by decide) (by decide) (by decide) (Nat.le_of_ble_eq_true rfl) (Nat.le_of_ble_eq_true rfl) dX8_init_38 (fun q61 H hH hn_q61 hb_q61 hS => ?_)
  obtain ⟨f62, ef62⟩ : ∃ zz_, zz_ = hm_up f53 q61 (eI Γ 8 (fun _ => 0)) := ⟨_, rfl⟩
  have hH : hm_H Γ f62 H := by rw [ef62]; exact hH
  have h63 : f62 q61 = some (eI Γ 8 (fun _ => 0)) := by rw [ef62]; exact hm_us
  have h64 : f62 m0 = some (eR 8 [.ref q1, .ref q13, .ref q27, .ref q43, .null, .null, .null, .null, .null, .null, .null, .null, .null, .null, .null, .null, .null, .null, .null, .null, .null, .null, .null, .null, .null, .null, .null, .null, .int 0, .int 0, .int 0, .int 0, .int 0, .int 0, .int 0, .int 0, .int 0, .int 0, .int 0, .int 0, .int 0, .int 0, .int 0, .int 0, .long 0, .long 0]) := by rw [ef62]; exact (hm_un (hm_nn h54 hn_q61)).trans h54
  have h65 : f62 q1 = some (eI Γ 4 (fun _ => 0)) := by rw [ef62]; exact (hm_un (hm_nn h55 hn_q61)).trans h55
  have h66 : f62 q13 = some (eJ Γ 8 (fun _ => 0)) := by rw [ef62]; exact (hm_un (hm_nn h56 hn_q61)).trans h56
  have h67 : f62 q27 = some (eI Γ 8 (fun _ => 0)) := by rw [ef62]; exact (hm_un (hm_nn h57 hn_q61)).trans h57
  have h68 : f62 q43 = some (eI Γ 8 (fun _ => 0)) := by rw [ef62]; exact (hm_un (hm_nn h58 hn_q61)).trans h58
  have nd70 : List.Nodup [q61, q43, q27, q13, q1] := List.nodup_cons.mpr ⟨al59.not hn_q61, nd51⟩
  have al69 : alv [q61, q43, q27, q13, q1] f62 := by rw [ef62]; exact al59.new
  have hk71 : hm_k (fun q => q = m0) f f62 := by rw [ef62]; exact hk60.upG hn_q61
  refine pF_X8_23 hx hb hts hown hin hK hO hS hH h64 rfl (Nat.le_of_ble_eq_true rfl) rfl dX8_init_40 (fun H locs hH hS => ?_)
  obtain ⟨f72, ef72⟩ : ∃ zz_, zz_ = hm_up f62 m0 (eR 8 [.ref q1, .ref q13, .ref q27, .ref q43, .ref q61, .null, .null, .null, .null, .null, .null, .null, .null, .null, .null, .null, .null, .null, .null, .null, .null, .null, .null, .null, .null, .null, .null, .null, .int 0, .int 0, .int 0, .int 0, .int 0, .int 0, .int 0, .int 0, .int 0, .int 0, .int 0, .int 0, .int 0, .int 0, .int 0, .int 0, .long 0, .long 0]) := ⟨_, rfl⟩
  have hH : hm_H Γ f72 H := by rw [ef72]; exact hH
  have h73 : f72 m0 = some (eR 8 [.ref q1, .ref q13, .ref q27, .ref q43, .ref q61, .null, .null, .null, .null, .null, .null, .null, .null, .null, .null, .null, .null, .null, .null, .null, .null, .null, .null, .null, .null, .null, .null, .null, .int 0, .int 0, .int 0, .int 0, .int 0, .int 0, .int 0, .int 0, .int 0, .int 0, .int 0, .int 0, .int 0, .int 0, .int 0, .int 0, .long 0, .long 0]) := by rw [ef72]; exact hm_us
  have h74 : f72 q1 = some (eI Γ 4 (fun _ => 0)) := by rw [ef72]; exact (hm_un (hm_ne h65 h64 (fun q => by cases q))).trans h65
  have h75 : f72 q13 = some (eJ Γ 8 (fun _ => 0)) := by rw [ef72]; exact (hm_un (hm_ne h66 h64 (fun q => by cases q))).trans h66
  have h76 : f72 q27 = some (eI Γ 8 (fun _ => 0)) := by rw [ef72]; exact (hm_un (hm_ne h67 h64 (fun q => by cases q))).trans h67
  have h77 : f72 q43 = some (eI Γ 8 (fun _ => 0)) := by rw [ef72]; exact (hm_un (hm_ne h68 h64 (fun q => by cases q))).trans h68
  have h78 : f72 q61 = some (eI Γ 8 (fun _ => 0)) := by rw [ef72]; exact (hm_un (hm_ne h63 h64 (fun q => by cases q))).trans h63
  have al79 : alv [q61, q43, q27, q13, q1] f72 := by rw [ef72]; exact al69.up
  have hk80 : hm_k (fun q => q = m0) f f72 := by rw [ef72]; exact hk71.up rfl
  refine lv_aload_n hx hb dX8_init_43 rfl (lv_at hl 0 rfl) ?_
  refine lv_bipush (v := 8) hx hb dX8_init_44 (by decide) ?_
  refine hm_newI hx hb hts hK hO hS hH (N' := 8) (by decide) (by decide) (by decide) (Nat.le_of_ble_eq_true rfl) (Nat.le_of_ble_eq_true rfl) dX8_init_46 (fun q81 H hH hn_q81 hb_q81 hS => ?_)
  obtain ⟨f82, ef82⟩ : ∃ zz_, zz_ = hm_up f72 q81 (eI Γ 8 (fun _ => 0)) := ⟨_, rfl⟩
  have hH : hm_H Γ f82 H := by rw [ef82]; exact hH
  have h83 : f82 q81 = some (eI Γ 8 (fun _ => 0)) := by rw [ef82]; exact hm_us
  have h84 : f82 m0 = some (eR 8 [.ref q1, .ref q13, .ref q27, .ref q43, .ref q61, .null, .null, .null, .null, .null, .null, .null, .null, .null, .null, .null, .null, .null, .null, .null, .null, .null, .null, .null, .null, .null, .null, .null, .int 0, .int 0, .int 0, .int 0, .int 0, .int 0, .int 0, .int 0, .int 0, .int 0, .int 0, .int 0, .int 0, .int 0, .int 0, .int 0, .long 0, .long 0]) := by rw [ef82]; exact (hm_un (hm_nn h73 hn_q81)).trans h73
  have h85 : f82 q1 = some (eI Γ 4 (fun _ => 0)) := by rw [ef82]; exact (hm_un (hm_nn h74 hn_q81)).trans h74
  have h86 : f82 q13 = some (eJ Γ 8 (fun _ => 0)) := by rw [ef82]; exact (hm_un (hm_nn h75 hn_q81)).trans h75
  have h87 : f82 q27 = some (eI Γ 8 (fun _ => 0)) := by rw [ef82]; exact (hm_un (hm_nn h76 hn_q81)).trans h76
  have h88 : f82 q43 = some (eI Γ 8 (fun _ => 0)) := by rw [ef82]; exact (hm_un (hm_nn h77 hn_q81)).trans h77
  have h89 : f82 q61 = some (eI Γ 8 (fun _ => 0)) := by rw [ef82]; exact (hm_un (hm_nn h78 hn_q81)).trans h78
  have nd91 : List.Nodup [q81, q61, q43, q27, q13, q1] := List.nodup_cons.mpr ⟨al79.not hn_q81, nd70⟩
  have al90 : alv [q81, q61, q43, q27, q13, q1] f82 := by rw [ef82]; exact al79.new
  have hk92 : hm_k (fun q => q = m0) f f82 := by rw [ef82]; exact hk80.upG hn_q81
  refine pF_X8_26 hx hb hts hown hin hK hO hS hH h84 rfl (Nat.le_of_ble_eq_true rfl) rfl dX8_init_48 (fun H locs hH hS => ?_)
  obtain ⟨f93, ef93⟩ : ∃ zz_, zz_ = hm_up f82 m0 (eR 8 [.ref q1, .ref q13, .ref q27, .ref q43, .ref q61, .ref q81, .null, .null, .null, .null, .null, .null, .null, .null, .null, .null, .null, .null, .null, .null, .null, .null, .null, .null, .null, .null, .null, .null, .int 0, .int 0, .int 0, .int 0, .int 0, .int 0, .int 0, .int 0, .int 0, .int 0, .int 0, .int 0, .int 0, .int 0, .int 0, .int 0, .long 0, .long 0]) := ⟨_, rfl⟩
  have hH : hm_H Γ f93 H := by rw [ef93]; exact hH
  have h94 : f93 m0 = some (eR 8 [.ref q1, .ref q13, .ref q27, .ref q43, .ref q61, .ref q81, .null, .null, .null, .null, .null, .null, .null, .null, .null, .null, .null, .null, .null, .null, .null, .null, .null, .null, .null, .null, .null, .null, .int 0, .int 0, .int 0, .int 0, .int 0, .int 0, .int 0, .int 0, .int 0, .int 0, .int 0, .int 0, .int 0, .int 0, .int 0, .int 0, .long 0, .long 0]) := by rw [ef93]; exact hm_us
  have h95 : f93 q1 = some (eI Γ 4 (fun _ => 0)) := by rw [ef93]; exact (hm_un (hm_ne h85 h84 (fun q => by cases q))).trans h85
  have h96 : f93 q13 = some (eJ Γ 8 (fun _ => 0)) := by rw [ef93]; exact (hm_un (hm_ne h86 h84 (fun q => by cases q))).trans h86
  have h97 : f93 q27 = some (eI Γ 8 (fun _ => 0)) := by rw [ef93]; exact (hm_un (hm_ne h87 h84 (fun q => by cases q))).trans h87
  have h98 : f93 q43 = some (eI Γ 8 (fun _ => 0)) := by rw [ef93]; exact (hm_un (hm_ne h88 h84 (fun q => by cases q))).trans h88
  have h99 : f93 q61 = some (eI Γ 8 (fun _ => 0)) := by rw [ef93]; exact (hm_un (hm_ne h89 h84 (fun q => by cases q))).trans h89
  have h100 : f93 q81 = some (eI Γ 8 (fun _ => 0)) := by rw [ef93]; exact (hm_un (hm_ne h83 h84 (fun q => by cases q))).trans h83
  have al101 : alv [q81, q61, q43, q27, q13, q1] f93 := by rw [ef93]; exact al90.up
  have hk102 : hm_k (fun q => q = m0) f f93 := by rw [ef93]; exact hk92.up rfl
  refine lv_aload_n hx hb dX8_init_51 rfl (lv_at hl 0 rfl) ?_
  refine lv_bipush (v := 8) hx hb dX8_init_52 (by decide) ?_
  refine hm_newI hx hb hts hK hO hS hH (N' := 8) (by decide) (by decide) (by decide) (Nat.le_of_ble_eq_true rfl) (Nat.le_of_ble_eq_true rfl) dX8_init_54 (fun q103 H hH hn_q103 hb_q103 hS => ?_)
  obtain ⟨f104, ef104⟩ : ∃ zz_, zz_ = hm_up f93 q103 (eI Γ 8 (fun _ => 0)) := ⟨_, rfl⟩
  have hH : hm_H Γ f104 H := by rw [ef104]; exact hH
  have h105 : f104 q103 = some (eI Γ 8 (fun _ => 0)) := by rw [ef104]; exact hm_us
  have h106 : f104 m0 = some (eR 8 [.ref q1, .ref q13, .ref q27, .ref q43, .ref q61, .ref q81, .null, .null, .null, .null, .null, .null, .null, .null, .null, .null, .null, .null, .null, .null, .null, .null, .null, .null, .null, .null, .null, .null, .int 0, .int 0, .int 0, .int 0, .int 0, .int 0, .int 0, .int 0, .int 0, .int 0, .int 0, .int 0, .int 0, .int 0, .int 0, .int 0, .long 0, .long 0]) := by rw [ef104]; exact (hm_un (hm_nn h94 hn_q103)).trans h94
  have h107 : f104 q1 = some (eI Γ 4 (fun _ => 0)) := by rw [ef104]; exact (hm_un (hm_nn h95 hn_q103)).trans h95
  have h108 : f104 q13 = some (eJ Γ 8 (fun _ => 0)) := by rw [ef104]; exact (hm_un (hm_nn h96 hn_q103)).trans h96
  have h109 : f104 q27 = some (eI Γ 8 (fun _ => 0)) := by rw [ef104]; exact (hm_un (hm_nn h97 hn_q103)).trans h97
  have h110 : f104 q43 = some (eI Γ 8 (fun _ => 0)) := by rw [ef104]; exact (hm_un (hm_nn h98 hn_q103)).trans h98
  have h111 : f104 q61 = some (eI Γ 8 (fun _ => 0)) := by rw [ef104]; exact (hm_un (hm_nn h99 hn_q103)).trans h99
  have h112 : f104 q81 = some (eI Γ 8 (fun _ => 0)) := by rw [ef104]; exact (hm_un (hm_nn h100 hn_q103)).trans h100
  have nd114 : List.Nodup [q103, q81, q61, q43, q27, q13, q1] := List.nodup_cons.mpr ⟨al101.not hn_q103, nd91⟩
  have al113 : alv [q103, q81, q61, q43, q27, q13, q1] f104 := by rw [ef104]; exact al101.new
  have hk115 : hm_k (fun q => q = m0) f f104 := by rw [ef104]; exact hk102.upG hn_q103
  refine pF_X8_29 hx hb hts hown hin hK hO hS hH h106 rfl (Nat.le_of_ble_eq_true rfl) rfl dX8_init_56 (fun H locs hH hS => ?_)
  obtain ⟨f116, ef116⟩ : ∃ zz_, zz_ = hm_up f104 m0 (eR 8 [.ref q1, .ref q13, .ref q27, .ref q43, .ref q61, .ref q81, .ref q103, .null, .null, .null, .null, .null, .null, .null, .null, .null, .null, .null, .null, .null, .null, .null, .null, .null, .null, .null, .null, .null, .int 0, .int 0, .int 0, .int 0, .int 0, .int 0, .int 0, .int 0, .int 0, .int 0, .int 0, .int 0, .int 0, .int 0, .int 0, .int 0, .long 0, .long 0]) := ⟨_, rfl⟩
  have hH : hm_H Γ f116 H := by rw [ef116]; exact hH
  have h117 : f116 m0 = some (eR 8 [.ref q1, .ref q13, .ref q27, .ref q43, .ref q61, .ref q81, .ref q103, .null, .null, .null, .null, .null, .null, .null, .null, .null, .null, .null, .null, .null, .null, .null, .null, .null, .null, .null, .null, .null, .int 0, .int 0, .int 0, .int 0, .int 0, .int 0, .int 0, .int 0, .int 0, .int 0, .int 0, .int 0, .int 0, .int 0, .int 0, .int 0, .long 0, .long 0]) := by rw [ef116]; exact hm_us
  have h118 : f116 q1 = some (eI Γ 4 (fun _ => 0)) := by rw [ef116]; exact (hm_un (hm_ne h107 h106 (fun q => by cases q))).trans h107
  have h119 : f116 q13 = some (eJ Γ 8 (fun _ => 0)) := by rw [ef116]; exact (hm_un (hm_ne h108 h106 (fun q => by cases q))).trans h108
  have h120 : f116 q27 = some (eI Γ 8 (fun _ => 0)) := by rw [ef116]; exact (hm_un (hm_ne h109 h106 (fun q => by cases q))).trans h109
  have h121 : f116 q43 = some (eI Γ 8 (fun _ => 0)) := by rw [ef116]; exact (hm_un (hm_ne h110 h106 (fun q => by cases q))).trans h110
  have h122 : f116 q61 = some (eI Γ 8 (fun _ => 0)) := by rw [ef116]; exact (hm_un (hm_ne h111 h106 (fun q => by cases q))).trans h111
  have h123 : f116 q81 = some (eI Γ 8 (fun _ => 0)) := by rw [ef116]; exact (hm_un (hm_ne h112 h106 (fun q => by cases q))).trans h112
  have h124 : f116 q103 = some (eI Γ 8 (fun _ => 0)) := by rw [ef116]; exact (hm_un (hm_ne h105 h106 (fun q => by cases q))).trans h105
  have al125 : alv [q103, q81, q61, q43, q27, q13, q1] f116 := by rw [ef116]; exact al113.up
  have hk126 : hm_k (fun q => q = m0) f f116 := by rw [ef116]; exact hk115.up rfl
  refine lv_aload_n hx hb dX8_init_59 rfl (lv_at hl 0 rfl) ?_
  refine lv_bipush (v := 8) hx hb dX8_init_60 (by decide) ?_
  refine hm_newI hx hb hts hK hO hS hH (N' := 8) (by decide) (by decide) (by decide) (Nat.le_of_ble_eq_true rfl) (Nat.le_of_ble_eq_true rfl) dX8_init_62 (fun q127 H hH hn_q127 hb_q127 hS => ?_)
  obtain ⟨f128, ef128⟩ : ∃ zz_, zz_ = hm_up f116 q127 (eI Γ 8 (fun _ => 0)) := ⟨_, rfl⟩
  have hH : hm_H Γ f128 H := by rw [ef128]; exact hH
  have h129 : f128 q127 = some (eI Γ 8 (fun _ => 0)) := by rw [ef128]; exact hm_us
  have h130 : f128 m0 = some (eR 8 [.ref q1, .ref q13, .ref q27, .ref q43, .ref q61, .ref q81, .ref q103, .null, .null, .null, .null, .null, .null, .null, .null, .null, .null, .null, .null, .null, .null, .null, .null, .null, .null, .null, .null, .null, .int 0, .int 0, .int 0, .int 0, .int 0, .int 0, .int 0, .int 0, .int 0, .int 0, .int 0, .int 0, .int 0, .int 0, .int 0, .int 0, .long 0, .long 0]) := by rw [ef128]; exact (hm_un (hm_nn h117 hn_q127)).trans h117
  have h131 : f128 q1 = some (eI Γ 4 (fun _ => 0)) := by rw [ef128]; exact (hm_un (hm_nn h118 hn_q127)).trans h118
  have h132 : f128 q13 = some (eJ Γ 8 (fun _ => 0)) := by rw [ef128]; exact (hm_un (hm_nn h119 hn_q127)).trans h119
  have h133 : f128 q27 = some (eI Γ 8 (fun _ => 0)) := by rw [ef128]; exact (hm_un (hm_nn h120 hn_q127)).trans h120
  have h134 : f128 q43 = some (eI Γ 8 (fun _ => 0)) := by rw [ef128]; exact (hm_un (hm_nn h121 hn_q127)).trans h121
  have h135 : f128 q61 = some (eI Γ 8 (fun _ => 0)) := by rw [ef128]; exact (hm_un (hm_nn h122 hn_q127)).trans h122
  have h136 : f128 q81 = some (eI Γ 8 (fun _ => 0)) := by rw [ef128]; exact (hm_un (hm_nn h123 hn_q127)).trans h123
  have h137 : f128 q103 = some (eI Γ 8 (fun _ => 0)) := by rw [ef128]; exact (hm_un (hm_nn h124 hn_q127)).trans h124
  have nd139 : List.Nodup [q127, q103, q81, q61, q43, q27, q13, q1] := List.nodup_cons.mpr ⟨al125.not hn_q127, nd114⟩
  have al138 : alv [q127, q103, q81, q61, q43, q27, q13, q1] f128 := by rw [ef128]; exact al125.new
  have hk140 : hm_k (fun q => q = m0) f f128 := by rw [ef128]; exact hk126.upG hn_q127
  refine pF_X8_32 hx hb hts hown hin hK hO hS hH h130 rfl (Nat.le_of_ble_eq_true rfl) rfl dX8_init_64 (fun H locs hH hS => ?_)
  obtain ⟨f141, ef141⟩ : ∃ zz_, zz_ = hm_up f128 m0 (eR 8 [.ref q1, .ref q13, .ref q27, .ref q43, .ref q61, .ref q81, .ref q103, .ref q127, .null, .null, .null, .null, .null, .null, .null, .null, .null, .null, .null, .null, .null, .null, .null, .null, .null, .null, .null, .null, .int 0, .int 0, .int 0, .int 0, .int 0, .int 0, .int 0, .int 0, .int 0, .int 0, .int 0, .int 0, .int 0, .int 0, .int 0, .int 0, .long 0, .long 0]) := ⟨_, rfl⟩
  have hH : hm_H Γ f141 H := by rw [ef141]; exact hH
  have h142 : f141 m0 = some (eR 8 [.ref q1, .ref q13, .ref q27, .ref q43, .ref q61, .ref q81, .ref q103, .ref q127, .null, .null, .null, .null, .null, .null, .null, .null, .null, .null, .null, .null, .null, .null, .null, .null, .null, .null, .null, .null, .int 0, .int 0, .int 0, .int 0, .int 0, .int 0, .int 0, .int 0, .int 0, .int 0, .int 0, .int 0, .int 0, .int 0, .int 0, .int 0, .long 0, .long 0]) := by rw [ef141]; exact hm_us
  have h143 : f141 q1 = some (eI Γ 4 (fun _ => 0)) := by rw [ef141]; exact (hm_un (hm_ne h131 h130 (fun q => by cases q))).trans h131
  have h144 : f141 q13 = some (eJ Γ 8 (fun _ => 0)) := by rw [ef141]; exact (hm_un (hm_ne h132 h130 (fun q => by cases q))).trans h132
  have h145 : f141 q27 = some (eI Γ 8 (fun _ => 0)) := by rw [ef141]; exact (hm_un (hm_ne h133 h130 (fun q => by cases q))).trans h133
  have h146 : f141 q43 = some (eI Γ 8 (fun _ => 0)) := by rw [ef141]; exact (hm_un (hm_ne h134 h130 (fun q => by cases q))).trans h134
  have h147 : f141 q61 = some (eI Γ 8 (fun _ => 0)) := by rw [ef141]; exact (hm_un (hm_ne h135 h130 (fun q => by cases q))).trans h135
  have h148 : f141 q81 = some (eI Γ 8 (fun _ => 0)) := by rw [ef141]; exact (hm_un (hm_ne h136 h130 (fun q => by cases q))).trans h136
  have h149 : f141 q103 = some (eI Γ 8 (fun _ => 0)) := by rw [ef141]; exact (hm_un (hm_ne h137 h130 (fun q => by cases q))).trans h137
  have h150 : f141 q127 = some (eI Γ 8 (fun _ => 0)) := by rw [ef141]; exact (hm_un (hm_ne h129 h130 (fun q => by cases q))).trans h129
  have al151 : alv [q127, q103, q81, q61, q43, q27, q13, q1] f141 := by rw [ef141]; exact al138.up
  have hk152 : hm_k (fun q => q = m0) f f141 := by rw [ef141]; exact hk140.up rfl
  refine lv_aload_n hx hb dX8_init_67 rfl (lv_at hl 0 rfl) ?_
  refine lv_bipush (v := 8) hx hb dX8_init_68 (by decide) ?_
  refine hm_newI hx hb hts hK hO hS hH (N' := 8) (by decide) (by decide) (by decide) (Nat.le_of_ble_eq_true rfl) (Nat.le_of_ble_eq_true rfl) dX8_init_70 (fun q153 H hH hn_q153 hb_q153 hS => ?_)
  obtain ⟨f154, ef154⟩ : ∃ zz_, zz_ = hm_up f141 q153 (eI Γ 8 (fun _ => 0)) := ⟨_, rfl⟩
  have hH : hm_H Γ f154 H := by rw [ef154]; exact hH
  have h155 : f154 q153 = some (eI Γ 8 (fun _ => 0)) := by rw [ef154]; exact hm_us
  have h156 : f154 m0 = some (eR 8 [.ref q1, .ref q13, .ref q27, .ref q43, .ref q61, .ref q81, .ref q103, .ref q127, .null, .null, .null, .null, .null, .null, .null, .null, .null, .null, .null, .null, .null, .null, .null, .null, .null, .null, .null, .null, .int 0, .int 0, .int 0, .int 0, .int 0, .int 0, .int 0, .int 0, .int 0, .int 0, .int 0, .int 0, .int 0, .int 0, .int 0, .int 0, .long 0, .long 0]) := by rw [ef154]; exact (hm_un (hm_nn h142 hn_q153)).trans h142
  have h157 : f154 q1 = some (eI Γ 4 (fun _ => 0)) := by rw [ef154]; exact (hm_un (hm_nn h143 hn_q153)).trans h143
  have h158 : f154 q13 = some (eJ Γ 8 (fun _ => 0)) := by rw [ef154]; exact (hm_un (hm_nn h144 hn_q153)).trans h144
  have h159 : f154 q27 = some (eI Γ 8 (fun _ => 0)) := by rw [ef154]; exact (hm_un (hm_nn h145 hn_q153)).trans h145
  have h160 : f154 q43 = some (eI Γ 8 (fun _ => 0)) := by rw [ef154]; exact (hm_un (hm_nn h146 hn_q153)).trans h146
  have h161 : f154 q61 = some (eI Γ 8 (fun _ => 0)) := by rw [ef154]; exact (hm_un (hm_nn h147 hn_q153)).trans h147
  have h162 : f154 q81 = some (eI Γ 8 (fun _ => 0)) := by rw [ef154]; exact (hm_un (hm_nn h148 hn_q153)).trans h148
  have h163 : f154 q103 = some (eI Γ 8 (fun _ => 0)) := by rw [ef154]; exact (hm_un (hm_nn h149 hn_q153)).trans h149
  have h164 : f154 q127 = some (eI Γ 8 (fun _ => 0)) := by rw [ef154]; exact (hm_un (hm_nn h150 hn_q153)).trans h150
  have nd166 : List.Nodup [q153, q127, q103, q81, q61, q43, q27, q13, q1] := List.nodup_cons.mpr ⟨al151.not hn_q153, nd139⟩
  have al165 : alv [q153, q127, q103, q81, q61, q43, q27, q13, q1] f154 := by rw [ef154]; exact al151.new
  have hk167 : hm_k (fun q => q = m0) f f154 := by rw [ef154]; exact hk152.upG hn_q153
  refine pF_X8_35 hx hb hts hown hin hK hO hS hH h156 rfl (Nat.le_of_ble_eq_true rfl) rfl dX8_init_72 (fun H locs hH hS => ?_)
  obtain ⟨f168, ef168⟩ : ∃ zz_, zz_ = hm_up f154 m0 (eR 8 [.ref q1, .ref q13, .ref q27, .ref q43, .ref q61, .ref q81, .ref q103, .ref q127, .ref q153, .null, .null, .null, .null, .null, .null, .null, .null, .null, .null, .null, .null, .null, .null, .null, .null, .null, .null, .null, .int 0, .int 0, .int 0, .int 0, .int 0, .int 0, .int 0, .int 0, .int 0, .int 0, .int 0, .int 0, .int 0, .int 0, .int 0, .int 0, .long 0, .long 0]) := ⟨_, rfl⟩
  have hH : hm_H Γ f168 H := by rw [ef168]; exact hH
  have h169 : f168 m0 = some (eR 8 [.ref q1, .ref q13, .ref q27, .ref q43, .ref q61, .ref q81, .ref q103, .ref q127, .ref q153, .null, .null, .null, .null, .null, .null, .null, .null, .null, .null, .null, .null, .null, .null, .null, .null, .null, .null, .null, .int 0, .int 0, .int 0, .int 0, .int 0, .int 0, .int 0, .int 0, .int 0, .int 0, .int 0, .int 0, .int 0, .int 0, .int 0, .int 0, .long 0, .long 0]) := by rw [ef168]; exact hm_us
  have h170 : f168 q1 = some (eI Γ 4 (fun _ => 0)) := by rw [ef168]; exact (hm_un (hm_ne h157 h156 (fun q => by cases q))).trans h157
  have h171 : f168 q13 = some (eJ Γ 8 (fun _ => 0)) := by rw [ef168]; exact (hm_un (hm_ne h158 h156 (fun q => by cases q))).trans h158
  have h172 : f168 q27 = some (eI Γ 8 (fun _ => 0)) := by rw [ef168]; exact (hm_un (hm_ne h159 h156 (fun q => by cases q))).trans h159
  have h173 : f168 q43 = some (eI Γ 8 (fun _ => 0)) := by rw [ef168]; exact (hm_un (hm_ne h160 h156 (fun q => by cases q))).trans h160
  have h174 : f168 q61 = some (eI Γ 8 (fun _ => 0)) := by rw [ef168]; exact (hm_un (hm_ne h161 h156 (fun q => by cases q))).trans h161
  have h175 : f168 q81 = some (eI Γ 8 (fun _ => 0)) := by rw [ef168]; exact (hm_un (hm_ne h162 h156 (fun q => by cases q))).trans h162
  have h176 : f168 q103 = some (eI Γ 8 (fun _ => 0)) := by rw [ef168]; exact (hm_un (hm_ne h163 h156 (fun q => by cases q))).trans h163
  have h177 : f168 q127 = some (eI Γ 8 (fun _ => 0)) := by rw [ef168]; exact (hm_un (hm_ne h164 h156 (fun q => by cases q))).trans h164
  have h178 : f168 q153 = some (eI Γ 8 (fun _ => 0)) := by rw [ef168]; exact (hm_un (hm_ne h155 h156 (fun q => by cases q))).trans h155
  have al179 : alv [q153, q127, q103, q81, q61, q43, q27, q13, q1] f168 := by rw [ef168]; exact al165.up
  have hk180 : hm_k (fun q => q = m0) f f168 := by rw [ef168]; exact hk167.up rfl
  refine lv_aload_n hx hb dX8_init_75 rfl (lv_at hl 0 rfl) ?_
  refine lv_bipush (v := 8) hx hb dX8_init_76 (by decide) ?_
  refine hm_newZ hx hb hts hK hO hS hH (N' := 8) (by decide) (by decide) (by decide) (Nat.le_of_ble_eq_true rfl) (Nat.le_of_ble_eq_true rfl) dX8_init_78 (fun q181 H hH hn_q181 hb_q181 hS => ?_)
  obtain ⟨f182, ef182⟩ : ∃ zz_, zz_ = hm_up f168 q181 (eZ Γ 8 (fun _ => 0)) := ⟨_, rfl⟩
  have hH : hm_H Γ f182 H := by rw [ef182]; exact hH
  have h183 : f182 q181 = some (eZ Γ 8 (fun _ => 0)) := by rw [ef182]; exact hm_us
  have h184 : f182 m0 = some (eR 8 [.ref q1, .ref q13, .ref q27, .ref q43, .ref q61, .ref q81, .ref q103, .ref q127, .ref q153, .null, .null, .null, .null, .null, .null, .null, .null, .null, .null, .null, .null, .null, .null, .null, .null, .null, .null, .null, .int 0, .int 0, .int 0, .int 0, .int 0, .int 0, .int 0, .int 0, .int 0, .int 0, .int 0, .int 0, .int 0, .int 0, .int 0, .int 0, .long 0, .long 0]) := by rw [ef182]; exact (hm_un (hm_nn h169 hn_q181)).trans h169
  have h185 : f182 q1 = some (eI Γ 4 (fun _ => 0)) := by rw [ef182]; exact (hm_un (hm_nn h170 hn_q181)).trans h170
  have h186 : f182 q13 = some (eJ Γ 8 (fun _ => 0)) := by rw [ef182]; exact (hm_un (hm_nn h171 hn_q181)).trans h171
  have h187 : f182 q27 = some (eI Γ 8 (fun _ => 0)) := by rw [ef182]; exact (hm_un (hm_nn h172 hn_q181)).trans h172
  have h188 : f182 q43 = some (eI Γ 8 (fun _ => 0)) := by rw [ef182]; exact (hm_un (hm_nn h173 hn_q181)).trans h173
  have h189 : f182 q61 = some (eI Γ 8 (fun _ => 0)) := by rw [ef182]; exact (hm_un (hm_nn h174 hn_q181)).trans h174
  have h190 : f182 q81 = some (eI Γ 8 (fun _ => 0)) := by rw [ef182]; exact (hm_un (hm_nn h175 hn_q181)).trans h175
  have h191 : f182 q103 = some (eI Γ 8 (fun _ => 0)) := by rw [ef182]; exact (hm_un (hm_nn h176 hn_q181)).trans h176
  have h192 : f182 q127 = some (eI Γ 8 (fun _ => 0)) := by rw [ef182]; exact (hm_un (hm_nn h177 hn_q181)).trans h177
  have h193 : f182 q153 = some (eI Γ 8 (fun _ => 0)) := by rw [ef182]; exact (hm_un (hm_nn h178 hn_q181)).trans h178
  have nd195 : List.Nodup [q181, q153, q127, q103, q81, q61, q43, q27, q13, q1] := List.nodup_cons.mpr ⟨al179.not hn_q181, nd166⟩
  have al194 : alv [q181, q153, q127, q103, q81, q61, q43, q27, q13, q1] f182 := by rw [ef182]; exact al179.new
  have hk196 : hm_k (fun q => q = m0) f f182 := by rw [ef182]; exact hk180.upG hn_q181
  refine pF_X8_38 hx hb hts hown hin hK hO hS hH h184 rfl (Nat.le_of_ble_eq_true rfl) rfl dX8_init_80 (fun H locs hH hS => ?_)
  obtain ⟨f197, ef197⟩ : ∃ zz_, zz_ = hm_up f182 m0 (eR 8 [.ref q1, .ref q13, .ref q27, .ref q43, .ref q61, .ref q81, .ref q103, .ref q127, .ref q153, .ref q181, .null, .null, .null, .null, .null, .null, .null, .null, .null, .null, .null, .null, .null, .null, .null, .null, .null, .null, .int 0, .int 0, .int 0, .int 0, .int 0, .int 0, .int 0, .int 0, .int 0, .int 0, .int 0, .int 0, .int 0, .int 0, .int 0, .int 0, .long 0, .long 0]) := ⟨_, rfl⟩
  have hH : hm_H Γ f197 H := by rw [ef197]; exact hH
  have h198 : f197 m0 = some (eR 8 [.ref q1, .ref q13, .ref q27, .ref q43, .ref q61, .ref q81, .ref q103, .ref q127, .ref q153, .ref q181, .null, .null, .null, .null, .null, .null, .null, .null, .null, .null, .null, .null, .null, .null, .null, .null, .null, .null, .int 0, .int 0, .int 0, .int 0, .int 0, .int 0, .int 0, .int 0, .int 0, .int 0, .int 0, .int 0, .int 0, .int 0, .int 0, .int 0, .long 0, .long 0]) := by rw [ef197]; exact hm_us
  have h199 : f197 q1 = some (eI Γ 4 (fun _ => 0)) := by rw [ef197]; exact (hm_un (hm_ne h185 h184 (fun q => by cases q))).trans h185
  have h200 : f197 q13 = some (eJ Γ 8 (fun _ => 0)) := by rw [ef197]; exact (hm_un (hm_ne h186 h184 (fun q => by cases q))).trans h186
  have h201 : f197 q27 = some (eI Γ 8 (fun _ => 0)) := by rw [ef197]; exact (hm_un (hm_ne h187 h184 (fun q => by cases q))).trans h187
  have h202 : f197 q43 = some (eI Γ 8 (fun _ => 0)) := by rw [ef197]; exact (hm_un (hm_ne h188 h184 (fun q => by cases q))).trans h188
  have h203 : f197 q61 = some (eI Γ 8 (fun _ => 0)) := by rw [ef197]; exact (hm_un (hm_ne h189 h184 (fun q => by cases q))).trans h189
  have h204 : f197 q81 = some (eI Γ 8 (fun _ => 0)) := by rw [ef197]; exact (hm_un (hm_ne h190 h184 (fun q => by cases q))).trans h190
  have h205 : f197 q103 = some (eI Γ 8 (fun _ => 0)) := by rw [ef197]; exact (hm_un (hm_ne h191 h184 (fun q => by cases q))).trans h191
  have h206 : f197 q127 = some (eI Γ 8 (fun _ => 0)) := by rw [ef197]; exact (hm_un (hm_ne h192 h184 (fun q => by cases q))).trans h192
  have h207 : f197 q153 = some (eI Γ 8 (fun _ => 0)) := by rw [ef197]; exact (hm_un (hm_ne h193 h184 (fun q => by cases q))).trans h193
  have h208 : f197 q181 = some (eZ Γ 8 (fun _ => 0)) := by rw [ef197]; exact (hm_un (hm_ne h183 h184 (fun q => by cases q))).trans h183
  have al209 : alv [q181, q153, q127, q103, q81, q61, q43, q27, q13, q1] f197 := by rw [ef197]; exact al194.up
  have hk210 : hm_k (fun q => q = m0) f f197 := by rw [ef197]; exact hk196.up rfl
  refine lv_aload_n hx hb dX8_init_83 rfl (lv_at hl 0 rfl) ?_
  refine lv_bipush (v := 60) hx hb dX8_init_84 (by decide) ?_
  refine hm_newJ hx hb hts hK hO hS hH (N' := 60) (by decide) (by decide) (by decide) (Nat.le_of_ble_eq_true rfl) (Nat.le_of_ble_eq_true rfl) dX8_init_86 (fun q211 H hH hn_q211 hb_q211 hS => ?_)
  obtain ⟨f212, ef212⟩ : ∃ zz_, zz_ = hm_up f197 q211 (eJ Γ 60 (fun _ => 0)) := ⟨_, rfl⟩
  have hH : hm_H Γ f212 H := by rw [ef212]; exact hH
  have h213 : f212 q211 = some (eJ Γ 60 (fun _ => 0)) := by rw [ef212]; exact hm_us
  have h214 : f212 m0 = some (eR 8 [.ref q1, .ref q13, .ref q27, .ref q43, .ref q61, .ref q81, .ref q103, .ref q127, .ref q153, .ref q181, .null, .null, .null, .null, .null, .null, .null, .null, .null, .null, .null, .null, .null, .null, .null, .null, .null, .null, .int 0, .int 0, .int 0, .int 0, .int 0, .int 0, .int 0, .int 0, .int 0, .int 0, .int 0, .int 0, .int 0, .int 0, .int 0, .int 0, .long 0, .long 0]) := by rw [ef212]; exact (hm_un (hm_nn h198 hn_q211)).trans h198
  have h215 : f212 q1 = some (eI Γ 4 (fun _ => 0)) := by rw [ef212]; exact (hm_un (hm_nn h199 hn_q211)).trans h199
  have h216 : f212 q13 = some (eJ Γ 8 (fun _ => 0)) := by rw [ef212]; exact (hm_un (hm_nn h200 hn_q211)).trans h200
  have h217 : f212 q27 = some (eI Γ 8 (fun _ => 0)) := by rw [ef212]; exact (hm_un (hm_nn h201 hn_q211)).trans h201
  have h218 : f212 q43 = some (eI Γ 8 (fun _ => 0)) := by rw [ef212]; exact (hm_un (hm_nn h202 hn_q211)).trans h202
  have h219 : f212 q61 = some (eI Γ 8 (fun _ => 0)) := by rw [ef212]; exact (hm_un (hm_nn h203 hn_q211)).trans h203
  have h220 : f212 q81 = some (eI Γ 8 (fun _ => 0)) := by rw [ef212]; exact (hm_un (hm_nn h204 hn_q211)).trans h204
  have h221 : f212 q103 = some (eI Γ 8 (fun _ => 0)) := by rw [ef212]; exact (hm_un (hm_nn h205 hn_q211)).trans h205
  have h222 : f212 q127 = some (eI Γ 8 (fun _ => 0)) := by rw [ef212]; exact (hm_un (hm_nn h206 hn_q211)).trans h206
  have h223 : f212 q153 = some (eI Γ 8 (fun _ => 0)) := by rw [ef212]; exact (hm_un (hm_nn h207 hn_q211)).trans h207
  have h224 : f212 q181 = some (eZ Γ 8 (fun _ => 0)) := by rw [ef212]; exact (hm_un (hm_nn h208 hn_q211)).trans h208
  have nd226 : List.Nodup [q211, q181, q153, q127, q103, q81, q61, q43, q27, q13, q1] := List.nodup_cons.mpr ⟨al209.not hn_q211, nd195⟩
  have al225 : alv [q211, q181, q153, q127, q103, q81, q61, q43, q27, q13, q1] f212 := by rw [ef212]; exact al209.new
  have hk227 : hm_k (fun q => q = m0) f f212 := by rw [ef212]; exact hk210.upG hn_q211
  refine pF_X8_42 hx hb hts hown hin hK hO hS hH h214 rfl (Nat.le_of_ble_eq_true rfl) rfl dX8_init_88 (fun H locs hH hS => ?_)
  obtain ⟨f228, ef228⟩ : ∃ zz_, zz_ = hm_up f212 m0 (eR 8 [.ref q1, .ref q13, .ref q27, .ref q43, .ref q61, .ref q81, .ref q103, .ref q127, .ref q153, .ref q181, .ref q211, .null, .null, .null, .null, .null, .null, .null, .null, .null, .null, .null, .null, .null, .null, .null, .null, .null, .int 0, .int 0, .int 0, .int 0, .int 0, .int 0, .int 0, .int 0, .int 0, .int 0, .int 0, .int 0, .int 0, .int 0, .int 0, .int 0, .long 0, .long 0]) := ⟨_, rfl⟩
  have hH : hm_H Γ f228 H := by rw [ef228]; exact hH
  have h229 : f228 m0 = some (eR 8 [.ref q1, .ref q13, .ref q27, .ref q43, .ref q61, .ref q81, .ref q103, .ref q127, .ref q153, .ref q181, .ref q211, .null, .null, .null, .null, .null, .null, .null, .null, .null, .null, .null, .null, .null, .null, .null, .null, .null, .int 0, .int 0, .int 0, .int 0, .int 0, .int 0, .int 0, .int 0, .int 0, .int 0, .int 0, .int 0, .int 0, .int 0, .int 0, .int 0, .long 0, .long 0]) := by rw [ef228]; exact hm_us
  have h230 : f228 q1 = some (eI Γ 4 (fun _ => 0)) := by rw [ef228]; exact (hm_un (hm_ne h215 h214 (fun q => by cases q))).trans h215
  have h231 : f228 q13 = some (eJ Γ 8 (fun _ => 0)) := by rw [ef228]; exact (hm_un (hm_ne h216 h214 (fun q => by cases q))).trans h216
  have h232 : f228 q27 = some (eI Γ 8 (fun _ => 0)) := by rw [ef228]; exact (hm_un (hm_ne h217 h214 (fun q => by cases q))).trans h217
  have h233 : f228 q43 = some (eI Γ 8 (fun _ => 0)) := by rw [ef228]; exact (hm_un (hm_ne h218 h214 (fun q => by cases q))).trans h218
  have h234 : f228 q61 = some (eI Γ 8 (fun _ => 0)) := by rw [ef228]; exact (hm_un (hm_ne h219 h214 (fun q => by cases q))).trans h219
  have h235 : f228 q81 = some (eI Γ 8 (fun _ => 0)) := by rw [ef228]; exact (hm_un (hm_ne h220 h214 (fun q => by cases q))).trans h220
  have h236 : f228 q103 = some (eI Γ 8 (fun _ => 0)) := by rw [ef228]; exact (hm_un (hm_ne h221 h214 (fun q => by cases q))).trans h221
  have h237 : f228 q127 = some (eI Γ 8 (fun _ => 0)) := by rw [ef228]; exact (hm_un (hm_ne h222 h214 (fun q => by cases q))).trans h222
  have h238 : f228 q153 = some (eI Γ 8 (fun _ => 0)) := by rw [ef228]; exact (hm_un (hm_ne h223 h214 (fun q => by cases q))).trans h223
  have h239 : f228 q181 = some (eZ Γ 8 (fun _ => 0)) := by rw [ef228]; exact (hm_un (hm_ne h224 h214 (fun q => by cases q))).trans h224
  have h240 : f228 q211 = some (eJ Γ 60 (fun _ => 0)) := by rw [ef228]; exact (hm_un (hm_ne h213 h214 (fun q => by cases q))).trans h213
  have al241 : alv [q211, q181, q153, q127, q103, q81, q61, q43, q27, q13, q1] f228 := by rw [ef228]; exact al225.up
  have hk242 : hm_k (fun q => q = m0) f f228 := by rw [ef228]; exact hk227.up rfl
  refine lv_aload_n hx hb dX8_init_91 rfl (lv_at hl 0 rfl) ?_
  refine lv_bipush (v := 60) hx hb dX8_init_92 (by decide) ?_
  refine hm_newI hx hb hts hK hO hS hH (N' := 60) (by decide) (by decide) (by decide) (Nat.le_of_ble_eq_true rfl) (Nat.le_of_ble_eq_true rfl) dX8_init_94 (fun q243 H hH hn_q243 hb_q243 hS => ?_)
  obtain ⟨f244, ef244⟩ : ∃ zz_, zz_ = hm_up f228 q243 (eI Γ 60 (fun _ => 0)) := ⟨_, rfl⟩
  have hH : hm_H Γ f244 H := by rw [ef244]; exact hH
  have h245 : f244 q243 = some (eI Γ 60 (fun _ => 0)) := by rw [ef244]; exact hm_us
  have h246 : f244 m0 = some (eR 8 [.ref q1, .ref q13, .ref q27, .ref q43, .ref q61, .ref q81, .ref q103, .ref q127, .ref q153, .ref q181, .ref q211, .null, .null, .null, .null, .null, .null, .null, .null, .null, .null, .null, .null, .null, .null, .null, .null, .null, .int 0, .int 0, .int 0, .int 0, .int 0, .int 0, .int 0, .int 0, .int 0, .int 0, .int 0, .int 0, .int 0, .int 0, .int 0, .int 0, .long 0, .long 0]) := by rw [ef244]; exact (hm_un (hm_nn h229 hn_q243)).trans h229
  have h247 : f244 q1 = some (eI Γ 4 (fun _ => 0)) := by rw [ef244]; exact (hm_un (hm_nn h230 hn_q243)).trans h230
  have h248 : f244 q13 = some (eJ Γ 8 (fun _ => 0)) := by rw [ef244]; exact (hm_un (hm_nn h231 hn_q243)).trans h231
  have h249 : f244 q27 = some (eI Γ 8 (fun _ => 0)) := by rw [ef244]; exact (hm_un (hm_nn h232 hn_q243)).trans h232
  have h250 : f244 q43 = some (eI Γ 8 (fun _ => 0)) := by rw [ef244]; exact (hm_un (hm_nn h233 hn_q243)).trans h233
  have h251 : f244 q61 = some (eI Γ 8 (fun _ => 0)) := by rw [ef244]; exact (hm_un (hm_nn h234 hn_q243)).trans h234
  have h252 : f244 q81 = some (eI Γ 8 (fun _ => 0)) := by rw [ef244]; exact (hm_un (hm_nn h235 hn_q243)).trans h235
  have h253 : f244 q103 = some (eI Γ 8 (fun _ => 0)) := by rw [ef244]; exact (hm_un (hm_nn h236 hn_q243)).trans h236
  have h254 : f244 q127 = some (eI Γ 8 (fun _ => 0)) := by rw [ef244]; exact (hm_un (hm_nn h237 hn_q243)).trans h237
  have h255 : f244 q153 = some (eI Γ 8 (fun _ => 0)) := by rw [ef244]; exact (hm_un (hm_nn h238 hn_q243)).trans h238
  have h256 : f244 q181 = some (eZ Γ 8 (fun _ => 0)) := by rw [ef244]; exact (hm_un (hm_nn h239 hn_q243)).trans h239
  have h257 : f244 q211 = some (eJ Γ 60 (fun _ => 0)) := by rw [ef244]; exact (hm_un (hm_nn h240 hn_q243)).trans h240
  have nd259 : List.Nodup [q243, q211, q181, q153, q127, q103, q81, q61, q43, q27, q13, q1] := List.nodup_cons.mpr ⟨al241.not hn_q243, nd226⟩
  have al258 : alv [q243, q211, q181, q153, q127, q103, q81, q61, q43, q27, q13, q1] f244 := by rw [ef244]; exact al241.new
  have hk260 : hm_k (fun q => q = m0) f f244 := by rw [ef244]; exact hk242.upG hn_q243
  refine pF_X8_45 hx hb hts hown hin hK hO hS hH h246 rfl (Nat.le_of_ble_eq_true rfl) rfl dX8_init_96 (fun H locs hH hS => ?_)
  obtain ⟨f261, ef261⟩ : ∃ zz_, zz_ = hm_up f244 m0 (eR 8 [.ref q1, .ref q13, .ref q27, .ref q43, .ref q61, .ref q81, .ref q103, .ref q127, .ref q153, .ref q181, .ref q211, .ref q243, .null, .null, .null, .null, .null, .null, .null, .null, .null, .null, .null, .null, .null, .null, .null, .null, .int 0, .int 0, .int 0, .int 0, .int 0, .int 0, .int 0, .int 0, .int 0, .int 0, .int 0, .int 0, .int 0, .int 0, .int 0, .int 0, .long 0, .long 0]) := ⟨_, rfl⟩
  have hH : hm_H Γ f261 H := by rw [ef261]; exact hH
  have h262 : f261 m0 = some (eR 8 [.ref q1, .ref q13, .ref q27, .ref q43, .ref q61, .ref q81, .ref q103, .ref q127, .ref q153, .ref q181, .ref q211, .ref q243, .null, .null, .null, .null, .null, .null, .null, .null, .null, .null, .null, .null, .null, .null, .null, .null, .int 0, .int 0, .int 0, .int 0, .int 0, .int 0, .int 0, .int 0, .int 0, .int 0, .int 0, .int 0, .int 0, .int 0, .int 0, .int 0, .long 0, .long 0]) := by rw [ef261]; exact hm_us
  have h263 : f261 q1 = some (eI Γ 4 (fun _ => 0)) := by rw [ef261]; exact (hm_un (hm_ne h247 h246 (fun q => by cases q))).trans h247
  have h264 : f261 q13 = some (eJ Γ 8 (fun _ => 0)) := by rw [ef261]; exact (hm_un (hm_ne h248 h246 (fun q => by cases q))).trans h248
  have h265 : f261 q27 = some (eI Γ 8 (fun _ => 0)) := by rw [ef261]; exact (hm_un (hm_ne h249 h246 (fun q => by cases q))).trans h249
  have h266 : f261 q43 = some (eI Γ 8 (fun _ => 0)) := by rw [ef261]; exact (hm_un (hm_ne h250 h246 (fun q => by cases q))).trans h250
  have h267 : f261 q61 = some (eI Γ 8 (fun _ => 0)) := by rw [ef261]; exact (hm_un (hm_ne h251 h246 (fun q => by cases q))).trans h251
  have h268 : f261 q81 = some (eI Γ 8 (fun _ => 0)) := by rw [ef261]; exact (hm_un (hm_ne h252 h246 (fun q => by cases q))).trans h252
  have h269 : f261 q103 = some (eI Γ 8 (fun _ => 0)) := by rw [ef261]; exact (hm_un (hm_ne h253 h246 (fun q => by cases q))).trans h253
  have h270 : f261 q127 = some (eI Γ 8 (fun _ => 0)) := by rw [ef261]; exact (hm_un (hm_ne h254 h246 (fun q => by cases q))).trans h254
  have h271 : f261 q153 = some (eI Γ 8 (fun _ => 0)) := by rw [ef261]; exact (hm_un (hm_ne h255 h246 (fun q => by cases q))).trans h255
  have h272 : f261 q181 = some (eZ Γ 8 (fun _ => 0)) := by rw [ef261]; exact (hm_un (hm_ne h256 h246 (fun q => by cases q))).trans h256
  have h273 : f261 q211 = some (eJ Γ 60 (fun _ => 0)) := by rw [ef261]; exact (hm_un (hm_ne h257 h246 (fun q => by cases q))).trans h257
  have h274 : f261 q243 = some (eI Γ 60 (fun _ => 0)) := by rw [ef261]; exact (hm_un (hm_ne h245 h246 (fun q => by cases q))).trans h245
  have al275 : alv [q243, q211, q181, q153, q127, q103, q81, q61, q43, q27, q13, q1] f261 := by rw [ef261]; exact al258.up
  have hk276 : hm_k (fun q => q = m0) f f261 := by rw [ef261]; exact hk260.up rfl
  refine lv_aload_n hx hb dX8_init_99 rfl (lv_at hl 0 rfl) ?_
  refine lv_bipush (v := 60) hx hb dX8_init_100 (by decide) ?_
  refine hm_newI hx hb hts hK hO hS hH (N' := 60) (by decide) (by decide) (by decide) (Nat.le_of_ble_eq_true rfl) (Nat.le_of_ble_eq_true rfl) dX8_init_102 (fun q277 H hH hn_q277 hb_q277 hS => ?_)
  obtain ⟨f278, ef278⟩ : ∃ zz_, zz_ = hm_up f261 q277 (eI Γ 60 (fun _ => 0)) := ⟨_, rfl⟩
  have hH : hm_H Γ f278 H := by rw [ef278]; exact hH
  have h279 : f278 q277 = some (eI Γ 60 (fun _ => 0)) := by rw [ef278]; exact hm_us
  have h280 : f278 m0 = some (eR 8 [.ref q1, .ref q13, .ref q27, .ref q43, .ref q61, .ref q81, .ref q103, .ref q127, .ref q153, .ref q181, .ref q211, .ref q243, .null, .null, .null, .null, .null, .null, .null, .null, .null, .null, .null, .null, .null, .null, .null, .null, .int 0, .int 0, .int 0, .int 0, .int 0, .int 0, .int 0, .int 0, .int 0, .int 0, .int 0, .int 0, .int 0, .int 0, .int 0, .int 0, .long 0, .long 0]) := by rw [ef278]; exact (hm_un (hm_nn h262 hn_q277)).trans h262
  have h281 : f278 q1 = some (eI Γ 4 (fun _ => 0)) := by rw [ef278]; exact (hm_un (hm_nn h263 hn_q277)).trans h263
  have h282 : f278 q13 = some (eJ Γ 8 (fun _ => 0)) := by rw [ef278]; exact (hm_un (hm_nn h264 hn_q277)).trans h264
  have h283 : f278 q27 = some (eI Γ 8 (fun _ => 0)) := by rw [ef278]; exact (hm_un (hm_nn h265 hn_q277)).trans h265
  have h284 : f278 q43 = some (eI Γ 8 (fun _ => 0)) := by rw [ef278]; exact (hm_un (hm_nn h266 hn_q277)).trans h266
  have h285 : f278 q61 = some (eI Γ 8 (fun _ => 0)) := by rw [ef278]; exact (hm_un (hm_nn h267 hn_q277)).trans h267
  have h286 : f278 q81 = some (eI Γ 8 (fun _ => 0)) := by rw [ef278]; exact (hm_un (hm_nn h268 hn_q277)).trans h268
  have h287 : f278 q103 = some (eI Γ 8 (fun _ => 0)) := by rw [ef278]; exact (hm_un (hm_nn h269 hn_q277)).trans h269
  have h288 : f278 q127 = some (eI Γ 8 (fun _ => 0)) := by rw [ef278]; exact (hm_un (hm_nn h270 hn_q277)).trans h270
  have h289 : f278 q153 = some (eI Γ 8 (fun _ => 0)) := by rw [ef278]; exact (hm_un (hm_nn h271 hn_q277)).trans h271
  have h290 : f278 q181 = some (eZ Γ 8 (fun _ => 0)) := by rw [ef278]; exact (hm_un (hm_nn h272 hn_q277)).trans h272
  have h291 : f278 q211 = some (eJ Γ 60 (fun _ => 0)) := by rw [ef278]; exact (hm_un (hm_nn h273 hn_q277)).trans h273
  have h292 : f278 q243 = some (eI Γ 60 (fun _ => 0)) := by rw [ef278]; exact (hm_un (hm_nn h274 hn_q277)).trans h274
  have nd294 : List.Nodup [q277, q243, q211, q181, q153, q127, q103, q81, q61, q43, q27, q13, q1] := List.nodup_cons.mpr ⟨al275.not hn_q277, nd259⟩
  have al293 : alv [q277, q243, q211, q181, q153, q127, q103, q81, q61, q43, q27, q13, q1] f278 := by rw [ef278]; exact al275.new
  have hk295 : hm_k (fun q => q = m0) f f278 := by rw [ef278]; exact hk276.upG hn_q277
  refine pF_X8_48 hx hb hts hown hin hK hO hS hH h280 rfl (Nat.le_of_ble_eq_true rfl) rfl dX8_init_104 (fun H locs hH hS => ?_)
  obtain ⟨f296, ef296⟩ : ∃ zz_, zz_ = hm_up f278 m0 (eR 8 [.ref q1, .ref q13, .ref q27, .ref q43, .ref q61, .ref q81, .ref q103, .ref q127, .ref q153, .ref q181, .ref q211, .ref q243, .ref q277, .null, .null, .null, .null, .null, .null, .null, .null, .null, .null, .null, .null, .null, .null, .null, .int 0, .int 0, .int 0, .int 0, .int 0, .int 0, .int 0, .int 0, .int 0, .int 0, .int 0, .int 0, .int 0, .int 0, .int 0, .int 0, .long 0, .long 0]) := ⟨_, rfl⟩
  have hH : hm_H Γ f296 H := by rw [ef296]; exact hH
  have h297 : f296 m0 = some (eR 8 [.ref q1, .ref q13, .ref q27, .ref q43, .ref q61, .ref q81, .ref q103, .ref q127, .ref q153, .ref q181, .ref q211, .ref q243, .ref q277, .null, .null, .null, .null, .null, .null, .null, .null, .null, .null, .null, .null, .null, .null, .null, .int 0, .int 0, .int 0, .int 0, .int 0, .int 0, .int 0, .int 0, .int 0, .int 0, .int 0, .int 0, .int 0, .int 0, .int 0, .int 0, .long 0, .long 0]) := by rw [ef296]; exact hm_us
  have h298 : f296 q1 = some (eI Γ 4 (fun _ => 0)) := by rw [ef296]; exact (hm_un (hm_ne h281 h280 (fun q => by cases q))).trans h281
  have h299 : f296 q13 = some (eJ Γ 8 (fun _ => 0)) := by rw [ef296]; exact (hm_un (hm_ne h282 h280 (fun q => by cases q))).trans h282
  have h300 : f296 q27 = some (eI Γ 8 (fun _ => 0)) := by rw [ef296]; exact (hm_un (hm_ne h283 h280 (fun q => by cases q))).trans h283
  have h301 : f296 q43 = some (eI Γ 8 (fun _ => 0)) := by rw [ef296]; exact (hm_un (hm_ne h284 h280 (fun q => by cases q))).trans h284
  have h302 : f296 q61 = some (eI Γ 8 (fun _ => 0)) := by rw [ef296]; exact (hm_un (hm_ne h285 h280 (fun q => by cases q))).trans h285
  have h303 : f296 q81 = some (eI Γ 8 (fun _ => 0)) := by rw [ef296]; exact (hm_un (hm_ne h286 h280 (fun q => by cases q))).trans h286
  have h304 : f296 q103 = some (eI Γ 8 (fun _ => 0)) := by rw [ef296]; exact (hm_un (hm_ne h287 h280 (fun q => by cases q))).trans h287
  have h305 : f296 q127 = some (eI Γ 8 (fun _ => 0)) := by rw [ef296]; exact (hm_un (hm_ne h288 h280 (fun q => by cases q))).trans h288
  have h306 : f296 q153 = some (eI Γ 8 (fun _ => 0)) := by rw [ef296]; exact (hm_un (hm_ne h289 h280 (fun q => by cases q))).trans h289
  have h307 : f296 q181 = some (eZ Γ 8 (fun _ => 0)) := by rw [ef296]; exact (hm_un (hm_ne h290 h280 (fun q => by cases q))).trans h290
  have h308 : f296 q211 = some (eJ Γ 60 (fun _ => 0)) := by rw [ef296]; exact (hm_un (hm_ne h291 h280 (fun q => by cases q))).trans h291
  have h309 : f296 q243 = some (eI Γ 60 (fun _ => 0)) := by rw [ef296]; exact (hm_un (hm_ne h292 h280 (fun q => by cases q))).trans h292
  have h310 : f296 q277 = some (eI Γ 60 (fun _ => 0)) := by rw [ef296]; exact (hm_un (hm_ne h279 h280 (fun q => by cases q))).trans h279
  have al311 : alv [q277, q243, q211, q181, q153, q127, q103, q81, q61, q43, q27, q13, q1] f296 := by rw [ef296]; exact al293.up
  have hk312 : hm_k (fun q => q = m0) f f296 := by rw [ef296]; exact hk295.up rfl
  refine lv_aload_n hx hb dX8_init_107 rfl (lv_at hl 0 rfl) ?_
  refine lv_bipush (v := 60) hx hb dX8_init_108 (by decide) ?_
  refine hm_newI hx hb hts hK hO hS hH (N' := 60) (by decide) (by decide) (by decide) (Nat.le_of_ble_eq_true rfl) (Nat.le_of_ble_eq_true rfl) dX8_init_110 (fun q313 H hH hn_q313 hb_q313 hS => ?_)
  obtain ⟨f314, ef314⟩ : ∃ zz_, zz_ = hm_up f296 q313 (eI Γ 60 (fun _ => 0)) := ⟨_, rfl⟩
  have hH : hm_H Γ f314 H := by rw [ef314]; exact hH
  have h315 : f314 q313 = some (eI Γ 60 (fun _ => 0)) := by rw [ef314]; exact hm_us
  have h316 : f314 m0 = some (eR 8 [.ref q1, .ref q13, .ref q27, .ref q43, .ref q61, .ref q81, .ref q103, .ref q127, .ref q153, .ref q181, .ref q211, .ref q243, .ref q277, .null, .null, .null, .null, .null, .null, .null, .null, .null, .null, .null, .null, .null, .null, .null, .int 0, .int 0, .int 0, .int 0, .int 0, .int 0, .int 0, .int 0, .int 0, .int 0, .int 0, .int 0, .int 0, .int 0, .int 0, .int 0, .long 0, .long 0]) := by rw [ef314]; exact (hm_un (hm_nn h297 hn_q313)).trans h297
  have h317 : f314 q1 = some (eI Γ 4 (fun _ => 0)) := by rw [ef314]; exact (hm_un (hm_nn h298 hn_q313)).trans h298
  have h318 : f314 q13 = some (eJ Γ 8 (fun _ => 0)) := by rw [ef314]; exact (hm_un (hm_nn h299 hn_q313)).trans h299
  have h319 : f314 q27 = some (eI Γ 8 (fun _ => 0)) := by rw [ef314]; exact (hm_un (hm_nn h300 hn_q313)).trans h300
  have h320 : f314 q43 = some (eI Γ 8 (fun _ => 0)) := by rw [ef314]; exact (hm_un (hm_nn h301 hn_q313)).trans h301
  have h321 : f314 q61 = some (eI Γ 8 (fun _ => 0)) := by rw [ef314]; exact (hm_un (hm_nn h302 hn_q313)).trans h302
  have h322 : f314 q81 = some (eI Γ 8 (fun _ => 0)) := by rw [ef314]; exact (hm_un (hm_nn h303 hn_q313)).trans h303
  have h323 : f314 q103 = some (eI Γ 8 (fun _ => 0)) := by rw [ef314]; exact (hm_un (hm_nn h304 hn_q313)).trans h304
  have h324 : f314 q127 = some (eI Γ 8 (fun _ => 0)) := by rw [ef314]; exact (hm_un (hm_nn h305 hn_q313)).trans h305
  have h325 : f314 q153 = some (eI Γ 8 (fun _ => 0)) := by rw [ef314]; exact (hm_un (hm_nn h306 hn_q313)).trans h306
  have h326 : f314 q181 = some (eZ Γ 8 (fun _ => 0)) := by rw [ef314]; exact (hm_un (hm_nn h307 hn_q313)).trans h307
  have h327 : f314 q211 = some (eJ Γ 60 (fun _ => 0)) := by rw [ef314]; exact (hm_un (hm_nn h308 hn_q313)).trans h308
  have h328 : f314 q243 = some (eI Γ 60 (fun _ => 0)) := by rw [ef314]; exact (hm_un (hm_nn h309 hn_q313)).trans h309
  have h329 : f314 q277 = some (eI Γ 60 (fun _ => 0)) := by rw [ef314]; exact (hm_un (hm_nn h310 hn_q313)).trans h310
  have nd331 : List.Nodup [q313, q277, q243, q211, q181, q153, q127, q103, q81, q61, q43, q27, q13, q1] := List.nodup_cons.mpr ⟨al311.not hn_q313, nd294⟩
  have al330 : alv [q313, q277, q243, q211, q181, q153, q127, q103, q81, q61, q43, q27, q13, q1] f314 := by rw [ef314]; exact al311.new
  have hk332 : hm_k (fun q => q = m0) f f314 := by rw [ef314]; exact hk312.upG hn_q313
  refine pF_X8_51 hx hb hts hown hin hK hO hS hH h316 rfl (Nat.le_of_ble_eq_true rfl) rfl dX8_init_112 (fun H locs hH hS => ?_)
  obtain ⟨f333, ef333⟩ : ∃ zz_, zz_ = hm_up f314 m0 (eR 8 [.ref q1, .ref q13, .ref q27, .ref q43, .ref q61, .ref q81, .ref q103, .ref q127, .ref q153, .ref q181, .ref q211, .ref q243, .ref q277, .ref q313, .null, .null, .null, .null, .null, .null, .null, .null, .null, .null, .null, .null, .null, .null, .int 0, .int 0, .int 0, .int 0, .int 0, .int 0, .int 0, .int 0, .int 0, .int 0, .int 0, .int 0, .int 0, .int 0, .int 0, .int 0, .long 0, .long 0]) := ⟨_, rfl⟩
  have hH : hm_H Γ f333 H := by rw [ef333]; exact hH
  have h334 : f333 m0 = some (eR 8 [.ref q1, .ref q13, .ref q27, .ref q43, .ref q61, .ref q81, .ref q103, .ref q127, .ref q153, .ref q181, .ref q211, .ref q243, .ref q277, .ref q313, .null, .null, .null, .null, .null, .null, .null, .null, .null, .null, .null, .null, .null, .null, .int 0, .int 0, .int 0, .int 0, .int 0, .int 0, .int 0, .int 0, .int 0, .int 0, .int 0, .int 0, .int 0, .int 0, .int 0, .int 0, .long 0, .long 0]) := by rw [ef333]; exact hm_us
  have h335 : f333 q1 = some (eI Γ 4 (fun _ => 0)) := by rw [ef333]; exact (hm_un (hm_ne h317 h316 (fun q => by cases q))).trans h317
  have h336 : f333 q13 = some (eJ Γ 8 (fun _ => 0)) := by rw [ef333]; exact (hm_un (hm_ne h318 h316 (fun q => by cases q))).trans h318
  have h337 : f333 q27 = some (eI Γ 8 (fun _ => 0)) := by rw [ef333]; exact (hm_un (hm_ne h319 h316 (fun q => by cases q))).trans h319
  have h338 : f333 q43 = some (eI Γ 8 (fun _ => 0)) := by rw [ef333]; exact (hm_un (hm_ne h320 h316 (fun q => by cases q))).trans h320
  have h339 : f333 q61 = some (eI Γ 8 (fun _ => 0)) := by rw [ef333]; exact (hm_un (hm_ne h321 h316 (fun q => by cases q))).trans h321
  have h340 : f333 q81 = some (eI Γ 8 (fun _ => 0)) := by rw [ef333]; exact (hm_un (hm_ne h322 h316 (fun q => by cases q))).trans h322
  have h341 : f333 q103 = some (eI Γ 8 (fun _ => 0)) := by rw [ef333]; exact (hm_un (hm_ne h323 h316 (fun q => by cases q))).trans h323
  have h342 : f333 q127 = some (eI Γ 8 (fun _ => 0)) := by rw [ef333]; exact (hm_un (hm_ne h324 h316 (fun q => by cases q))).trans h324
  have h343 : f333 q153 = some (eI Γ 8 (fun _ => 0)) := by rw [ef333]; exact (hm_un (hm_ne h325 h316 (fun q => by cases q))).trans h325
  have h344 : f333 q181 = some (eZ Γ 8 (fun _ => 0)) := by rw [ef333]; exact (hm_un (hm_ne h326 h316 (fun q => by cases q))).trans h326
  have h345 : f333 q211 = some (eJ Γ 60 (fun _ => 0)) := by rw [ef333]; exact (hm_un (hm_ne h327 h316 (fun q => by cases q))).trans h327
  have h346 : f333 q243 = some (eI Γ 60 (fun _ => 0)) := by rw [ef333]; exact (hm_un (hm_ne h328 h316 (fun q => by cases q))).trans h328
  have h347 : f333 q277 = some (eI Γ 60 (fun _ => 0)) := by rw [ef333]; exact (hm_un (hm_ne h329 h316 (fun q => by cases q))).trans h329
  have h348 : f333 q313 = some (eI Γ 60 (fun _ => 0)) := by rw [ef333]; exact (hm_un (hm_ne h315 h316 (fun q => by cases q))).trans h315
  have al349 : alv [q313, q277, q243, q211, q181, q153, q127, q103, q81, q61, q43, q27, q13, q1] f333 := by rw [ef333]; exact al330.up
  have hk350 : hm_k (fun q => q = m0) f f333 := by rw [ef333]; exact hk332.up rfl
  refine lv_aload_n hx hb dX8_init_115 rfl (lv_at hl 0 rfl) ?_
  refine lv_bipush (v := 64) hx hb dX8_init_116 (by decide) ?_
  refine hm_newJ hx hb hts hK hO hS hH (N' := 64) (by decide) (by decide) (by decide) (Nat.le_of_ble_eq_true rfl) (Nat.le_of_ble_eq_true rfl) dX8_init_118 (fun q351 H hH hn_q351 hb_q351 hS => ?_)
  obtain ⟨f352, ef352⟩ : ∃ zz_, zz_ = hm_up f333 q351 (eJ Γ 64 (fun _ => 0)) := ⟨_, rfl⟩
  have hH : hm_H Γ f352 H := by rw [ef352]; exact hH
  have h353 : f352 q351 = some (eJ Γ 64 (fun _ => 0)) := by rw [ef352]; exact hm_us
  have h354 : f352 m0 = some (eR 8 [.ref q1, .ref q13, .ref q27, .ref q43, .ref q61, .ref q81, .ref q103, .ref q127, .ref q153, .ref q181, .ref q211, .ref q243, .ref q277, .ref q313, .null, .null, .null, .null, .null, .null, .null, .null, .null, .null, .null, .null, .null, .null, .int 0, .int 0, .int 0, .int 0, .int 0, .int 0, .int 0, .int 0, .int 0, .int 0, .int 0, .int 0, .int 0, .int 0, .int 0, .int 0, .long 0, .long 0]) := by rw [ef352]; exact (hm_un (hm_nn h334 hn_q351)).trans h334
  have h355 : f352 q1 = some (eI Γ 4 (fun _ => 0)) := by rw [ef352]; exact (hm_un (hm_nn h335 hn_q351)).trans h335
  have h356 : f352 q13 = some (eJ Γ 8 (fun _ => 0)) := by rw [ef352]; exact (hm_un (hm_nn h336 hn_q351)).trans h336
  have h357 : f352 q27 = some (eI Γ 8 (fun _ => 0)) := by rw [ef352]; exact (hm_un (hm_nn h337 hn_q351)).trans h337
  have h358 : f352 q43 = some (eI Γ 8 (fun _ => 0)) := by rw [ef352]; exact (hm_un (hm_nn h338 hn_q351)).trans h338
  have h359 : f352 q61 = some (eI Γ 8 (fun _ => 0)) := by rw [ef352]; exact (hm_un (hm_nn h339 hn_q351)).trans h339
  have h360 : f352 q81 = some (eI Γ 8 (fun _ => 0)) := by rw [ef352]; exact (hm_un (hm_nn h340 hn_q351)).trans h340
  have h361 : f352 q103 = some (eI Γ 8 (fun _ => 0)) := by rw [ef352]; exact (hm_un (hm_nn h341 hn_q351)).trans h341
  have h362 : f352 q127 = some (eI Γ 8 (fun _ => 0)) := by rw [ef352]; exact (hm_un (hm_nn h342 hn_q351)).trans h342
  have h363 : f352 q153 = some (eI Γ 8 (fun _ => 0)) := by rw [ef352]; exact (hm_un (hm_nn h343 hn_q351)).trans h343
  have h364 : f352 q181 = some (eZ Γ 8 (fun _ => 0)) := by rw [ef352]; exact (hm_un (hm_nn h344 hn_q351)).trans h344
  have h365 : f352 q211 = some (eJ Γ 60 (fun _ => 0)) := by rw [ef352]; exact (hm_un (hm_nn h345 hn_q351)).trans h345
  have h366 : f352 q243 = some (eI Γ 60 (fun _ => 0)) := by rw [ef352]; exact (hm_un (hm_nn h346 hn_q351)).trans h346
  have h367 : f352 q277 = some (eI Γ 60 (fun _ => 0)) := by rw [ef352]; exact (hm_un (hm_nn h347 hn_q351)).trans h347
  have h368 : f352 q313 = some (eI Γ 60 (fun _ => 0)) := by rw [ef352]; exact (hm_un (hm_nn h348 hn_q351)).trans h348
  have nd370 : List.Nodup [q351, q313, q277, q243, q211, q181, q153, q127, q103, q81, q61, q43, q27, q13, q1] := List.nodup_cons.mpr ⟨al349.not hn_q351, nd331⟩
  have al369 : alv [q351, q313, q277, q243, q211, q181, q153, q127, q103, q81, q61, q43, q27, q13, q1] f352 := by rw [ef352]; exact al349.new
  have hk371 : hm_k (fun q => q = m0) f f352 := by rw [ef352]; exact hk350.upG hn_q351
  refine pF_X8_54 hx hb hts hown hin hK hO hS hH h354 rfl (Nat.le_of_ble_eq_true rfl) rfl dX8_init_120 (fun H locs hH hS => ?_)
  obtain ⟨f372, ef372⟩ : ∃ zz_, zz_ = hm_up f352 m0 (eR 8 [.ref q1, .ref q13, .ref q27, .ref q43, .ref q61, .ref q81, .ref q103, .ref q127, .ref q153, .ref q181, .ref q211, .ref q243, .ref q277, .ref q313, .ref q351, .null, .null, .null, .null, .null, .null, .null, .null, .null, .null, .null, .null, .null, .int 0, .int 0, .int 0, .int 0, .int 0, .int 0, .int 0, .int 0, .int 0, .int 0, .int 0, .int 0, .int 0, .int 0, .int 0, .int 0, .long 0, .long 0]) := ⟨_, rfl⟩
  have hH : hm_H Γ f372 H := by rw [ef372]; exact hH
  have h373 : f372 m0 = some (eR 8 [.ref q1, .ref q13, .ref q27, .ref q43, .ref q61, .ref q81, .ref q103, .ref q127, .ref q153, .ref q181, .ref q211, .ref q243, .ref q277, .ref q313, .ref q351, .null, .null, .null, .null, .null, .null, .null, .null, .null, .null, .null, .null, .null, .int 0, .int 0, .int 0, .int 0, .int 0, .int 0, .int 0, .int 0, .int 0, .int 0, .int 0, .int 0, .int 0, .int 0, .int 0, .int 0, .long 0, .long 0]) := by rw [ef372]; exact hm_us
  have h374 : f372 q1 = some (eI Γ 4 (fun _ => 0)) := by rw [ef372]; exact (hm_un (hm_ne h355 h354 (fun q => by cases q))).trans h355
  have h375 : f372 q13 = some (eJ Γ 8 (fun _ => 0)) := by rw [ef372]; exact (hm_un (hm_ne h356 h354 (fun q => by cases q))).trans h356
  have h376 : f372 q27 = some (eI Γ 8 (fun _ => 0)) := by rw [ef372]; exact (hm_un (hm_ne h357 h354 (fun q => by cases q))).trans h357
  have h377 : f372 q43 = some (eI Γ 8 (fun _ => 0)) := by rw [ef372]; exact (hm_un (hm_ne h358 h354 (fun q => by cases q))).trans h358
  have h378 : f372 q61 = some (eI Γ 8 (fun _ => 0)) := by rw [ef372]; exact (hm_un (hm_ne h359 h354 (fun q => by cases q))).trans h359
  have h379 : f372 q81 = some (eI Γ 8 (fun _ => 0)) := by rw [ef372]; exact (hm_un (hm_ne h360 h354 (fun q => by cases q))).trans h360
  have h380 : f372 q103 = some (eI Γ 8 (fun _ => 0)) := by rw [ef372]; exact (hm_un (hm_ne h361 h354 (fun q => by cases q))).trans h361
  have h381 : f372 q127 = some (eI Γ 8 (fun _ => 0)) := by rw [ef372]; exact (hm_un (hm_ne h362 h354 (fun q => by cases q))).trans h362
  have h382 : f372 q153 = some (eI Γ 8 (fun _ => 0)) := by rw [ef372]; exact (hm_un (hm_ne h363 h354 (fun q => by cases q))).trans h363
  have h383 : f372 q181 = some (eZ Γ 8 (fun _ => 0)) := by rw [ef372]; exact (hm_un (hm_ne h364 h354 (fun q => by cases q))).trans h364
  have h384 : f372 q211 = some (eJ Γ 60 (fun _ => 0)) := by rw [ef372]; exact (hm_un (hm_ne h365 h354 (fun q => by cases q))).trans h365
  have h385 : f372 q243 = some (eI Γ 60 (fun _ => 0)) := by rw [ef372]; exact (hm_un (hm_ne h366 h354 (fun q => by cases q))).trans h366
  have h386 : f372 q277 = some (eI Γ 60 (fun _ => 0)) := by rw [ef372]; exact (hm_un (hm_ne h367 h354 (fun q => by cases q))).trans h367
  have h387 : f372 q313 = some (eI Γ 60 (fun _ => 0)) := by rw [ef372]; exact (hm_un (hm_ne h368 h354 (fun q => by cases q))).trans h368
  have h388 : f372 q351 = some (eJ Γ 64 (fun _ => 0)) := by rw [ef372]; exact (hm_un (hm_ne h353 h354 (fun q => by cases q))).trans h353
  have al389 : alv [q351, q313, q277, q243, q211, q181, q153, q127, q103, q81, q61, q43, q27, q13, q1] f372 := by rw [ef372]; exact al369.up
  have hk390 : hm_k (fun q => q = m0) f f372 := by rw [ef372]; exact hk371.up rfl
  refine lv_aload_n hx hb dX8_init_123 rfl (lv_at hl 0 rfl) ?_
  refine lv_bipush (v := 64) hx hb dX8_init_124 (by decide) ?_
  refine hm_newI hx hb hts hK hO hS hH (N' := 64) (by decide) (by decide) (by decide) (Nat.le_of_ble_eq_true rfl) (Nat.le_of_ble_eq_true rfl) dX8_init_126 (fun q391 H hH hn_q391 hb_q391 hS => ?_)
  obtain ⟨f392, ef392⟩ : ∃ zz_, zz_ = hm_up f372 q391 (eI Γ 64 (fun _ => 0)) := ⟨_, rfl⟩
  have hH : hm_H Γ f392 H := by rw [ef392]; exact hH
  have h393 : f392 q391 = some (eI Γ 64 (fun _ => 0)) := by rw [ef392]; exact hm_us
  have h394 : f392 m0 = some (eR 8 [.ref q1, .ref q13, .ref q27, .ref q43, .ref q61, .ref q81, .ref q103, .ref q127, .ref q153, .ref q181, .ref q211, .ref q243, .ref q277, .ref q313, .ref q351, .null, .null, .null, .null, .null, .null, .null, .null, .null, .null, .null, .null, .null, .int 0, .int 0, .int 0, .int 0, .int 0, .int 0, .int 0, .int 0, .int 0, .int 0, .int 0, .int 0, .int 0, .int 0, .int 0, .int 0, .long 0, .long 0]) := by rw [ef392]; exact (hm_un (hm_nn h373 hn_q391)).trans h373
  have h395 : f392 q1 = some (eI Γ 4 (fun _ => 0)) := by rw [ef392]; exact (hm_un (hm_nn h374 hn_q391)).trans h374
  have h396 : f392 q13 = some (eJ Γ 8 (fun _ => 0)) := by rw [ef392]; exact (hm_un (hm_nn h375 hn_q391)).trans h375
  have h397 : f392 q27 = some (eI Γ 8 (fun _ => 0)) := by rw [ef392]; exact (hm_un (hm_nn h376 hn_q391)).trans h376
  have h398 : f392 q43 = some (eI Γ 8 (fun _ => 0)) := by rw [ef392]; exact (hm_un (hm_nn h377 hn_q391)).trans h377
  have h399 : f392 q61 = some (eI Γ 8 (fun _ => 0)) := by rw [ef392]; exact (hm_un (hm_nn h378 hn_q391)).trans h378
  have h400 : f392 q81 = some (eI Γ 8 (fun _ => 0)) := by rw [ef392]; exact (hm_un (hm_nn h379 hn_q391)).trans h379
  have h401 : f392 q103 = some (eI Γ 8 (fun _ => 0)) := by rw [ef392]; exact (hm_un (hm_nn h380 hn_q391)).trans h380
  have h402 : f392 q127 = some (eI Γ 8 (fun _ => 0)) := by rw [ef392]; exact (hm_un (hm_nn h381 hn_q391)).trans h381
  have h403 : f392 q153 = some (eI Γ 8 (fun _ => 0)) := by rw [ef392]; exact (hm_un (hm_nn h382 hn_q391)).trans h382
  have h404 : f392 q181 = some (eZ Γ 8 (fun _ => 0)) := by rw [ef392]; exact (hm_un (hm_nn h383 hn_q391)).trans h383
  have h405 : f392 q211 = some (eJ Γ 60 (fun _ => 0)) := by rw [ef392]; exact (hm_un (hm_nn h384 hn_q391)).trans h384
  have h406 : f392 q243 = some (eI Γ 60 (fun _ => 0)) := by rw [ef392]; exact (hm_un (hm_nn h385 hn_q391)).trans h385
  have h407 : f392 q277 = some (eI Γ 60 (fun _ => 0)) := by rw [ef392]; exact (hm_un (hm_nn h386 hn_q391)).trans h386
  have h408 : f392 q313 = some (eI Γ 60 (fun _ => 0)) := by rw [ef392]; exact (hm_un (hm_nn h387 hn_q391)).trans h387
  have h409 : f392 q351 = some (eJ Γ 64 (fun _ => 0)) := by rw [ef392]; exact (hm_un (hm_nn h388 hn_q391)).trans h388
  have nd411 : List.Nodup [q391, q351, q313, q277, q243, q211, q181, q153, q127, q103, q81, q61, q43, q27, q13, q1] := List.nodup_cons.mpr ⟨al389.not hn_q391, nd370⟩
  have al410 : alv [q391, q351, q313, q277, q243, q211, q181, q153, q127, q103, q81, q61, q43, q27, q13, q1] f392 := by rw [ef392]; exact al389.new
  have hk412 : hm_k (fun q => q = m0) f f392 := by rw [ef392]; exact hk390.upG hn_q391
  refine pF_X8_57 hx hb hts hown hin hK hO hS hH h394 rfl (Nat.le_of_ble_eq_true rfl) rfl dX8_init_128 (fun H locs hH hS => ?_)
  obtain ⟨f413, ef413⟩ : ∃ zz_, zz_ = hm_up f392 m0 (eR 8 [.ref q1, .ref q13, .ref q27, .ref q43, .ref q61, .ref q81, .ref q103, .ref q127, .ref q153, .ref q181, .ref q211, .ref q243, .ref q277, .ref q313, .ref q351, .ref q391, .null, .null, .null, .null, .null, .null, .null, .null, .null, .null, .null, .null, .int 0, .int 0, .int 0, .int 0, .int 0, .int 0, .int 0, .int 0, .int 0, .int 0, .int 0, .int 0, .int 0, .int 0, .int 0, .int 0, .long 0, .long 0]) := ⟨_, rfl⟩
  have hH : hm_H Γ f413 H := by rw [ef413]; exact hH
  have h414 : f413 m0 = some (eR 8 [.ref q1, .ref q13, .ref q27, .ref q43, .ref q61, .ref q81, .ref q103, .ref q127, .ref q153, .ref q181, .ref q211, .ref q243, .ref q277, .ref q313, .ref q351, .ref q391, .null, .null, .null, .null, .null, .null, .null, .null, .null, .null, .null, .null, .int 0, .int 0, .int 0, .int 0, .int 0, .int 0, .int 0, .int 0, .int 0, .int 0, .int 0, .int 0, .int 0, .int 0, .int 0, .int 0, .long 0, .long 0]) := by rw [ef413]; exact hm_us
  have h415 : f413 q1 = some (eI Γ 4 (fun _ => 0)) := by rw [ef413]; exact (hm_un (hm_ne h395 h394 (fun q => by cases q))).trans h395
  have h416 : f413 q13 = some (eJ Γ 8 (fun _ => 0)) := by rw [ef413]; exact (hm_un (hm_ne h396 h394 (fun q => by cases q))).trans h396
  have h417 : f413 q27 = some (eI Γ 8 (fun _ => 0)) := by rw [ef413]; exact (hm_un (hm_ne h397 h394 (fun q => by cases q))).trans h397
  have h418 : f413 q43 = some (eI Γ 8 (fun _ => 0)) := by rw [ef413]; exact (hm_un (hm_ne h398 h394 (fun q => by cases q))).trans h398
  have h419 : f413 q61 = some (eI Γ 8 (fun _ => 0)) := by rw [ef413]; exact (hm_un (hm_ne h399 h394 (fun q => by cases q))).trans h399
  have h420 : f413 q81 = some (eI Γ 8 (fun _ => 0)) := by rw [ef413]; exact (hm_un (hm_ne h400 h394 (fun q => by cases q))).trans h400
  have h421 : f413 q103 = some (eI Γ 8 (fun _ => 0)) := by rw [ef413]; exact (hm_un (hm_ne h401 h394 (fun q => by cases q))).trans h401
  have h422 : f413 q127 = some (eI Γ 8 (fun _ => 0)) := by rw [ef413]; exact (hm_un (hm_ne h402 h394 (fun q => by cases q))).trans h402
  have h423 : f413 q153 = some (eI Γ 8 (fun _ => 0)) := by rw [ef413]; exact (hm_un (hm_ne h403 h394 (fun q => by cases q))).trans h403
  have h424 : f413 q181 = some (eZ Γ 8 (fun _ => 0)) := by rw [ef413]; exact (hm_un (hm_ne h404 h394 (fun q => by cases q))).trans h404
  have h425 : f413 q211 = some (eJ Γ 60 (fun _ => 0)) := by rw [ef413]; exact (hm_un (hm_ne h405 h394 (fun q => by cases q))).trans h405
  have h426 : f413 q243 = some (eI Γ 60 (fun _ => 0)) := by rw [ef413]; exact (hm_un (hm_ne h406 h394 (fun q => by cases q))).trans h406
  have h427 : f413 q277 = some (eI Γ 60 (fun _ => 0)) := by rw [ef413]; exact (hm_un (hm_ne h407 h394 (fun q => by cases q))).trans h407
  have h428 : f413 q313 = some (eI Γ 60 (fun _ => 0)) := by rw [ef413]; exact (hm_un (hm_ne h408 h394 (fun q => by cases q))).trans h408
  have h429 : f413 q351 = some (eJ Γ 64 (fun _ => 0)) := by rw [ef413]; exact (hm_un (hm_ne h409 h394 (fun q => by cases q))).trans h409
  have h430 : f413 q391 = some (eI Γ 64 (fun _ => 0)) := by rw [ef413]; exact (hm_un (hm_ne h393 h394 (fun q => by cases q))).trans h393
  have al431 : alv [q391, q351, q313, q277, q243, q211, q181, q153, q127, q103, q81, q61, q43, q27, q13, q1] f413 := by rw [ef413]; exact al410.up
  have hk432 : hm_k (fun q => q = m0) f f413 := by rw [ef413]; exact hk412.up rfl
  refine lv_aload_n hx hb dX8_init_131 rfl (lv_at hl 0 rfl) ?_
  refine lv_bipush (v := 64) hx hb dX8_init_132 (by decide) ?_
  refine hm_newI hx hb hts hK hO hS hH (N' := 64) (by decide) (by decide) (by decide) (Nat.le_of_ble_eq_true rfl) (Nat.le_of_ble_eq_true rfl) dX8_init_134 (fun q433 H hH hn_q433 hb_q433 hS => ?_)
  obtain ⟨f434, ef434⟩ : ∃ zz_, zz_ = hm_up f413 q433 (eI Γ 64 (fun _ => 0)) := ⟨_, rfl⟩
  have hH : hm_H Γ f434 H := by rw [ef434]; exact hH
  have h435 : f434 q433 = some (eI Γ 64 (fun _ => 0)) := by rw [ef434]; exact hm_us
  have h436 : f434 m0 = some (eR 8 [.ref q1, .ref q13, .ref q27, .ref q43, .ref q61, .ref q81, .ref q103, .ref q127, .ref q153, .ref q181, .ref q211, .ref q243, .ref q277, .ref q313, .ref q351, .ref q391, .null, .null, .null, .null, .null, .null, .null, .null, .null, .null, .null, .null, .int 0, .int 0, .int 0, .int 0, .int 0, .int 0, .int 0, .int 0, .int 0, .int 0, .int 0, .int 0, .int 0, .int 0, .int 0, .int 0, .long 0, .long 0]) := by rw [ef434]; exact (hm_un (hm_nn h414 hn_q433)).trans h414
  have h437 : f434 q1 = some (eI Γ 4 (fun _ => 0)) := by rw [ef434]; exact (hm_un (hm_nn h415 hn_q433)).trans h415
  have h438 : f434 q13 = some (eJ Γ 8 (fun _ => 0)) := by rw [ef434]; exact (hm_un (hm_nn h416 hn_q433)).trans h416
  have h439 : f434 q27 = some (eI Γ 8 (fun _ => 0)) := by rw [ef434]; exact (hm_un (hm_nn h417 hn_q433)).trans h417
  have h440 : f434 q43 = some (eI Γ 8 (fun _ => 0)) := by rw [ef434]; exact (hm_un (hm_nn h418 hn_q433)).trans h418
  have h441 : f434 q61 = some (eI Γ 8 (fun _ => 0)) := by rw [ef434]; exact (hm_un (hm_nn h419 hn_q433)).trans h419
  have h442 : f434 q81 = some (eI Γ 8 (fun _ => 0)) := by rw [ef434]; exact (hm_un (hm_nn h420 hn_q433)).trans h420
  have h443 : f434 q103 = some (eI Γ 8 (fun _ => 0)) := by rw [ef434]; exact (hm_un (hm_nn h421 hn_q433)).trans h421
  have h444 : f434 q127 = some (eI Γ 8 (fun _ => 0)) := by rw [ef434]; exact (hm_un (hm_nn h422 hn_q433)).trans h422
  have h445 : f434 q153 = some (eI Γ 8 (fun _ => 0)) := by rw [ef434]; exact (hm_un (hm_nn h423 hn_q433)).trans h423
  have h446 : f434 q181 = some (eZ Γ 8 (fun _ => 0)) := by rw [ef434]; exact (hm_un (hm_nn h424 hn_q433)).trans h424
  have h447 : f434 q211 = some (eJ Γ 60 (fun _ => 0)) := by rw [ef434]; exact (hm_un (hm_nn h425 hn_q433)).trans h425
  have h448 : f434 q243 = some (eI Γ 60 (fun _ => 0)) := by rw [ef434]; exact (hm_un (hm_nn h426 hn_q433)).trans h426
  have h449 : f434 q277 = some (eI Γ 60 (fun _ => 0)) := by rw [ef434]; exact (hm_un (hm_nn h427 hn_q433)).trans h427
  have h450 : f434 q313 = some (eI Γ 60 (fun _ => 0)) := by rw [ef434]; exact (hm_un (hm_nn h428 hn_q433)).trans h428
  have h451 : f434 q351 = some (eJ Γ 64 (fun _ => 0)) := by rw [ef434]; exact (hm_un (hm_nn h429 hn_q433)).trans h429
  have h452 : f434 q391 = some (eI Γ 64 (fun _ => 0)) := by rw [ef434]; exact (hm_un (hm_nn h430 hn_q433)).trans h430
  have nd454 : List.Nodup [q433, q391, q351, q313, q277, q243, q211, q181, q153, q127, q103, q81, q61, q43, q27, q13, q1] := List.nodup_cons.mpr ⟨al431.not hn_q433, nd411⟩
  have al453 : alv [q433, q391, q351, q313, q277, q243, q211, q181, q153, q127, q103, q81, q61, q43, q27, q13, q1] f434 := by rw [ef434]; exact al431.new
  have hk455 : hm_k (fun q => q = m0) f f434 := by rw [ef434]; exact hk432.upG hn_q433
  refine pF_X8_60 hx hb hts hown hin hK hO hS hH h436 rfl (Nat.le_of_ble_eq_true rfl) rfl dX8_init_136 (fun H locs hH hS => ?_)
  obtain ⟨f456, ef456⟩ : ∃ zz_, zz_ = hm_up f434 m0 (eR 8 [.ref q1, .ref q13, .ref q27, .ref q43, .ref q61, .ref q81, .ref q103, .ref q127, .ref q153, .ref q181, .ref q211, .ref q243, .ref q277, .ref q313, .ref q351, .ref q391, .ref q433, .null, .null, .null, .null, .null, .null, .null, .null, .null, .null, .null, .int 0, .int 0, .int 0, .int 0, .int 0, .int 0, .int 0, .int 0, .int 0, .int 0, .int 0, .int 0, .int 0, .int 0, .int 0, .int 0, .long 0, .long 0]) := ⟨_, rfl⟩
  have hH : hm_H Γ f456 H := by rw [ef456]; exact hH
  have h457 : f456 m0 = some (eR 8 [.ref q1, .ref q13, .ref q27, .ref q43, .ref q61, .ref q81, .ref q103, .ref q127, .ref q153, .ref q181, .ref q211, .ref q243, .ref q277, .ref q313, .ref q351, .ref q391, .ref q433, .null, .null, .null, .null, .null, .null, .null, .null, .null, .null, .null, .int 0, .int 0, .int 0, .int 0, .int 0, .int 0, .int 0, .int 0, .int 0, .int 0, .int 0, .int 0, .int 0, .int 0, .int 0, .int 0, .long 0, .long 0]) := by rw [ef456]; exact hm_us
  have h458 : f456 q1 = some (eI Γ 4 (fun _ => 0)) := by rw [ef456]; exact (hm_un (hm_ne h437 h436 (fun q => by cases q))).trans h437
  have h459 : f456 q13 = some (eJ Γ 8 (fun _ => 0)) := by rw [ef456]; exact (hm_un (hm_ne h438 h436 (fun q => by cases q))).trans h438
  have h460 : f456 q27 = some (eI Γ 8 (fun _ => 0)) := by rw [ef456]; exact (hm_un (hm_ne h439 h436 (fun q => by cases q))).trans h439
  have h461 : f456 q43 = some (eI Γ 8 (fun _ => 0)) := by rw [ef456]; exact (hm_un (hm_ne h440 h436 (fun q => by cases q))).trans h440
  have h462 : f456 q61 = some (eI Γ 8 (fun _ => 0)) := by rw [ef456]; exact (hm_un (hm_ne h441 h436 (fun q => by cases q))).trans h441
  have h463 : f456 q81 = some (eI Γ 8 (fun _ => 0)) := by rw [ef456]; exact (hm_un (hm_ne h442 h436 (fun q => by cases q))).trans h442
  have h464 : f456 q103 = some (eI Γ 8 (fun _ => 0)) := by rw [ef456]; exact (hm_un (hm_ne h443 h436 (fun q => by cases q))).trans h443
  have h465 : f456 q127 = some (eI Γ 8 (fun _ => 0)) := by rw [ef456]; exact (hm_un (hm_ne h444 h436 (fun q => by cases q))).trans h444
  have h466 : f456 q153 = some (eI Γ 8 (fun _ => 0)) := by rw [ef456]; exact (hm_un (hm_ne h445 h436 (fun q => by cases q))).trans h445
  have h467 : f456 q181 = some (eZ Γ 8 (fun _ => 0)) := by rw [ef456]; exact (hm_un (hm_ne h446 h436 (fun q => by cases q))).trans h446
  have h468 : f456 q211 = some (eJ Γ 60 (fun _ => 0)) := by rw [ef456]; exact (hm_un (hm_ne h447 h436 (fun q => by cases q))).trans h447
  have h469 : f456 q243 = some (eI Γ 60 (fun _ => 0)) := by rw [ef456]; exact (hm_un (hm_ne h448 h436 (fun q => by cases q))).trans h448
  have h470 : f456 q277 = some (eI Γ 60 (fun _ => 0)) := by rw [ef456]; exact (hm_un (hm_ne h449 h436 (fun q => by cases q))).trans h449
  have h471 : f456 q313 = some (eI Γ 60 (fun _ => 0)) := by rw [ef456]; exact (hm_un (hm_ne h450 h436 (fun q => by cases q))).trans h450
  have h472 : f456 q351 = some (eJ Γ 64 (fun _ => 0)) := by rw [ef456]; exact (hm_un (hm_ne h451 h436 (fun q => by cases q))).trans h451
  have h473 : f456 q391 = some (eI Γ 64 (fun _ => 0)) := by rw [ef456]; exact (hm_un (hm_ne h452 h436 (fun q => by cases q))).trans h452
  have h474 : f456 q433 = some (eI Γ 64 (fun _ => 0)) := by rw [ef456]; exact (hm_un (hm_ne h435 h436 (fun q => by cases q))).trans h435
  have al475 : alv [q433, q391, q351, q313, q277, q243, q211, q181, q153, q127, q103, q81, q61, q43, q27, q13, q1] f456 := by rw [ef456]; exact al453.up
  have hk476 : hm_k (fun q => q = m0) f f456 := by rw [ef456]; exact hk455.up rfl
  refine lv_aload_n hx hb dX8_init_139 rfl (lv_at hl 0 rfl) ?_
  refine lv_bipush (v := 64) hx hb dX8_init_140 (by decide) ?_
  refine hm_newI hx hb hts hK hO hS hH (N' := 64) (by decide) (by decide) (by decide) (Nat.le_of_ble_eq_true rfl) (Nat.le_of_ble_eq_true rfl) dX8_init_142 (fun q477 H hH hn_q477 hb_q477 hS => ?_)
  obtain ⟨f478, ef478⟩ : ∃ zz_, zz_ = hm_up f456 q477 (eI Γ 64 (fun _ => 0)) := ⟨_, rfl⟩
  have hH : hm_H Γ f478 H := by rw [ef478]; exact hH
  have h479 : f478 q477 = some (eI Γ 64 (fun _ => 0)) := by rw [ef478]; exact hm_us
  have h480 : f478 m0 = some (eR 8 [.ref q1, .ref q13, .ref q27, .ref q43, .ref q61, .ref q81, .ref q103, .ref q127, .ref q153, .ref q181, .ref q211, .ref q243, .ref q277, .ref q313, .ref q351, .ref q391, .ref q433, .null, .null, .null, .null, .null, .null, .null, .null, .null, .null, .null, .int 0, .int 0, .int 0, .int 0, .int 0, .int 0, .int 0, .int 0, .int 0, .int 0, .int 0, .int 0, .int 0, .int 0, .int 0, .int 0, .long 0, .long 0]) := by rw [ef478]; exact (hm_un (hm_nn h457 hn_q477)).trans h457
  have h481 : f478 q1 = some (eI Γ 4 (fun _ => 0)) := by rw [ef478]; exact (hm_un (hm_nn h458 hn_q477)).trans h458
  have h482 : f478 q13 = some (eJ Γ 8 (fun _ => 0)) := by rw [ef478]; exact (hm_un (hm_nn h459 hn_q477)).trans h459
  have h483 : f478 q27 = some (eI Γ 8 (fun _ => 0)) := by rw [ef478]; exact (hm_un (hm_nn h460 hn_q477)).trans h460
  have h484 : f478 q43 = some (eI Γ 8 (fun _ => 0)) := by rw [ef478]; exact (hm_un (hm_nn h461 hn_q477)).trans h461
  have h485 : f478 q61 = some (eI Γ 8 (fun _ => 0)) := by rw [ef478]; exact (hm_un (hm_nn h462 hn_q477)).trans h462
  have h486 : f478 q81 = some (eI Γ 8 (fun _ => 0)) := by rw [ef478]; exact (hm_un (hm_nn h463 hn_q477)).trans h463
  have h487 : f478 q103 = some (eI Γ 8 (fun _ => 0)) := by rw [ef478]; exact (hm_un (hm_nn h464 hn_q477)).trans h464
  have h488 : f478 q127 = some (eI Γ 8 (fun _ => 0)) := by rw [ef478]; exact (hm_un (hm_nn h465 hn_q477)).trans h465
  have h489 : f478 q153 = some (eI Γ 8 (fun _ => 0)) := by rw [ef478]; exact (hm_un (hm_nn h466 hn_q477)).trans h466
  have h490 : f478 q181 = some (eZ Γ 8 (fun _ => 0)) := by rw [ef478]; exact (hm_un (hm_nn h467 hn_q477)).trans h467
  have h491 : f478 q211 = some (eJ Γ 60 (fun _ => 0)) := by rw [ef478]; exact (hm_un (hm_nn h468 hn_q477)).trans h468
  have h492 : f478 q243 = some (eI Γ 60 (fun _ => 0)) := by rw [ef478]; exact (hm_un (hm_nn h469 hn_q477)).trans h469
  have h493 : f478 q277 = some (eI Γ 60 (fun _ => 0)) := by rw [ef478]; exact (hm_un (hm_nn h470 hn_q477)).trans h470
  have h494 : f478 q313 = some (eI Γ 60 (fun _ => 0)) := by rw [ef478]; exact (hm_un (hm_nn h471 hn_q477)).trans h471
  have h495 : f478 q351 = some (eJ Γ 64 (fun _ => 0)) := by rw [ef478]; exact (hm_un (hm_nn h472 hn_q477)).trans h472
  have h496 : f478 q391 = some (eI Γ 64 (fun _ => 0)) := by rw [ef478]; exact (hm_un (hm_nn h473 hn_q477)).trans h473
  have h497 : f478 q433 = some (eI Γ 64 (fun _ => 0)) := by rw [ef478]; exact (hm_un (hm_nn h474 hn_q477)).trans h474
  have nd499 : List.Nodup [q477, q433, q391, q351, q313, q277, q243, q211, q181, q153, q127, q103, q81, q61, q43, q27, q13, q1] := List.nodup_cons.mpr ⟨al475.not hn_q477, nd454⟩
  have al498 : alv [q477, q433, q391, q351, q313, q277, q243, q211, q181, q153, q127, q103, q81, q61, q43, q27, q13, q1] f478 := by rw [ef478]; exact al475.new
  have hk500 : hm_k (fun q => q = m0) f f478 := by rw [ef478]; exact hk476.upG hn_q477
  refine pF_X8_63 hx hb hts hown hin hK hO hS hH h480 rfl (Nat.le_of_ble_eq_true rfl) rfl dX8_init_144 (fun H locs hH hS => ?_)
  obtain ⟨f501, ef501⟩ : ∃ zz_, zz_ = hm_up f478 m0 (eR 8 [.ref q1, .ref q13, .ref q27, .ref q43, .ref q61, .ref q81, .ref q103, .ref q127, .ref q153, .ref q181, .ref q211, .ref q243, .ref q277, .ref q313, .ref q351, .ref q391, .ref q433, .ref q477, .null, .null, .null, .null, .null, .null, .null, .null, .null, .null, .int 0, .int 0, .int 0, .int 0, .int 0, .int 0, .int 0, .int 0, .int 0, .int 0, .int 0, .int 0, .int 0, .int 0, .int 0, .int 0, .long 0, .long 0]) := ⟨_, rfl⟩
  have hH : hm_H Γ f501 H := by rw [ef501]; exact hH
  have h502 : f501 m0 = some (eR 8 [.ref q1, .ref q13, .ref q27, .ref q43, .ref q61, .ref q81, .ref q103, .ref q127, .ref q153, .ref q181, .ref q211, .ref q243, .ref q277, .ref q313, .ref q351, .ref q391, .ref q433, .ref q477, .null, .null, .null, .null, .null, .null, .null, .null, .null, .null, .int 0, .int 0, .int 0, .int 0, .int 0, .int 0, .int 0, .int 0, .int 0, .int 0, .int 0, .int 0, .int 0, .int 0, .int 0, .int 0, .long 0, .long 0]) := by rw [ef501]; exact hm_us
  have h503 : f501 q1 = some (eI Γ 4 (fun _ => 0)) := by rw [ef501]; exact (hm_un (hm_ne h481 h480 (fun q => by cases q))).trans h481
  have h504 : f501 q13 = some (eJ Γ 8 (fun _ => 0)) := by rw [ef501]; exact (hm_un (hm_ne h482 h480 (fun q => by cases q))).trans h482
  have h505 : f501 q27 = some (eI Γ 8 (fun _ => 0)) := by rw [ef501]; exact (hm_un (hm_ne h483 h480 (fun q => by cases q))).trans h483
  have h506 : f501 q43 = some (eI Γ 8 (fun _ => 0)) := by rw [ef501]; exact (hm_un (hm_ne h484 h480 (fun q => by cases q))).trans h484
  have h507 : f501 q61 = some (eI Γ 8 (fun _ => 0)) := by rw [ef501]; exact (hm_un (hm_ne h485 h480 (fun q => by cases q))).trans h485
  have h508 : f501 q81 = some (eI Γ 8 (fun _ => 0)) := by rw [ef501]; exact (hm_un (hm_ne h486 h480 (fun q => by cases q))).trans h486
  have h509 : f501 q103 = some (eI Γ 8 (fun _ => 0)) := by rw [ef501]; exact (hm_un (hm_ne h487 h480 (fun q => by cases q))).trans h487
  have h510 : f501 q127 = some (eI Γ 8 (fun _ => 0)) := by rw [ef501]; exact (hm_un (hm_ne h488 h480 (fun q => by cases q))).trans h488
  have h511 : f501 q153 = some (eI Γ 8 (fun _ => 0)) := by rw [ef501]; exact (hm_un (hm_ne h489 h480 (fun q => by cases q))).trans h489
  have h512 : f501 q181 = some (eZ Γ 8 (fun _ => 0)) := by rw [ef501]; exact (hm_un (hm_ne h490 h480 (fun q => by cases q))).trans h490
  have h513 : f501 q211 = some (eJ Γ 60 (fun _ => 0)) := by rw [ef501]; exact (hm_un (hm_ne h491 h480 (fun q => by cases q))).trans h491
  have h514 : f501 q243 = some (eI Γ 60 (fun _ => 0)) := by rw [ef501]; exact (hm_un (hm_ne h492 h480 (fun q => by cases q))).trans h492
  have h515 : f501 q277 = some (eI Γ 60 (fun _ => 0)) := by rw [ef501]; exact (hm_un (hm_ne h493 h480 (fun q => by cases q))).trans h493
  have h516 : f501 q313 = some (eI Γ 60 (fun _ => 0)) := by rw [ef501]; exact (hm_un (hm_ne h494 h480 (fun q => by cases q))).trans h494
  have h517 : f501 q351 = some (eJ Γ 64 (fun _ => 0)) := by rw [ef501]; exact (hm_un (hm_ne h495 h480 (fun q => by cases q))).trans h495
  have h518 : f501 q391 = some (eI Γ 64 (fun _ => 0)) := by rw [ef501]; exact (hm_un (hm_ne h496 h480 (fun q => by cases q))).trans h496
  have h519 : f501 q433 = some (eI Γ 64 (fun _ => 0)) := by rw [ef501]; exact (hm_un (hm_ne h497 h480 (fun q => by cases q))).trans h497
  have h520 : f501 q477 = some (eI Γ 64 (fun _ => 0)) := by rw [ef501]; exact (hm_un (hm_ne h479 h480 (fun q => by cases q))).trans h479
  have al521 : alv [q477, q433, q391, q351, q313, q277, q243, q211, q181, q153, q127, q103, q81, q61, q43, q27, q13, q1] f501 := by rw [ef501]; exact al498.up
  have hk522 : hm_k (fun q => q = m0) f f501 := by rw [ef501]; exact hk500.up rfl
  refine lv_aload_n hx hb dX8_init_147 rfl (lv_at hl 0 rfl) ?_
  refine lv_bipush (v := 64) hx hb dX8_init_148 (by decide) ?_
  refine hm_newI hx hb hts hK hO hS hH (N' := 64) (by decide) (by decide) (by decide) (Nat.le_of_ble_eq_true rfl) (Nat.le_of_ble_eq_true rfl) dX8_init_150 (fun q523 H hH hn_q523 hb_q523 hS => ?_)
  obtain ⟨f524, ef524⟩ : ∃ zz_, zz_ = hm_up f501 q523 (eI Γ 64 (fun _ => 0)) := ⟨_, rfl⟩
  have hH : hm_H Γ f524 H := by rw [ef524]; exact hH
  have h525 : f524 q523 = some (eI Γ 64 (fun _ => 0)) := by rw [ef524]; exact hm_us
  have h526 : f524 m0 = some (eR 8 [.ref q1, .ref q13, .ref q27, .ref q43, .ref q61, .ref q81, .ref q103, .ref q127, .ref q153, .ref q181, .ref q211, .ref q243, .ref q277, .ref q313, .ref q351, .ref q391, .ref q433, .ref q477, .null, .null, .null, .null, .null, .null, .null, .null, .null, .null, .int 0, .int 0, .int 0, .int 0, .int 0, .int 0, .int 0, .int 0, .int 0, .int 0, .int 0, .int 0, .int 0, .int 0, .int 0, .int 0, .long 0, .long 0]) := by rw [ef524]; exact (hm_un (hm_nn h502 hn_q523)).trans h502
  have h527 : f524 q1 = some (eI Γ 4 (fun _ => 0)) := by rw [ef524]; exact (hm_un (hm_nn h503 hn_q523)).trans h503
  have h528 : f524 q13 = some (eJ Γ 8 (fun _ => 0)) := by rw [ef524]; exact (hm_un (hm_nn h504 hn_q523)).trans h504
  have h529 : f524 q27 = some (eI Γ 8 (fun _ => 0)) := by rw [ef524]; exact (hm_un (hm_nn h505 hn_q523)).trans h505
  have h530 : f524 q43 = some (eI Γ 8 (fun _ => 0)) := by rw [ef524]; exact (hm_un (hm_nn h506 hn_q523)).trans h506
  have h531 : f524 q61 = some (eI Γ 8 (fun _ => 0)) := by rw [ef524]; exact (hm_un (hm_nn h507 hn_q523)).trans h507
  have h532 : f524 q81 = some (eI Γ 8 (fun _ => 0)) := by rw [ef524]; exact (hm_un (hm_nn h508 hn_q523)).trans h508
  have h533 : f524 q103 = some (eI Γ 8 (fun _ => 0)) := by rw [ef524]; exact (hm_un (hm_nn h509 hn_q523)).trans h509
  have h534 : f524 q127 = some (eI Γ 8 (fun _ => 0)) := by rw [ef524]; exact (hm_un (hm_nn h510 hn_q523)).trans h510
  have h535 : f524 q153 = some (eI Γ 8 (fun _ => 0)) := by rw [ef524]; exact (hm_un (hm_nn h511 hn_q523)).trans h511
  have h536 : f524 q181 = some (eZ Γ 8 (fun _ => 0)) := by rw [ef524]; exact (hm_un (hm_nn h512 hn_q523)).trans h512
  have h537 : f524 q211 = some (eJ Γ 60 (fun _ => 0)) := by rw [ef524]; exact (hm_un (hm_nn h513 hn_q523)).trans h513
  have h538 : f524 q243 = some (eI Γ 60 (fun _ => 0)) := by rw [ef524]; exact (hm_un (hm_nn h514 hn_q523)).trans h514
  have h539 : f524 q277 = some (eI Γ 60 (fun _ => 0)) := by rw [ef524]; exact (hm_un (hm_nn h515 hn_q523)).trans h515
  have h540 : f524 q313 = some (eI Γ 60 (fun _ => 0)) := by rw [ef524]; exact (hm_un (hm_nn h516 hn_q523)).trans h516
  have h541 : f524 q351 = some (eJ Γ 64 (fun _ => 0)) := by rw [ef524]; exact (hm_un (hm_nn h517 hn_q523)).trans h517
  have h542 : f524 q391 = some (eI Γ 64 (fun _ => 0)) := by rw [ef524]; exact (hm_un (hm_nn h518 hn_q523)).trans h518
  have h543 : f524 q433 = some (eI Γ 64 (fun _ => 0)) := by rw [ef524]; exact (hm_un (hm_nn h519 hn_q523)).trans h519
  have h544 : f524 q477 = some (eI Γ 64 (fun _ => 0)) := by rw [ef524]; exact (hm_un (hm_nn h520 hn_q523)).trans h520
  have nd546 : List.Nodup [q523, q477, q433, q391, q351, q313, q277, q243, q211, q181, q153, q127, q103, q81, q61, q43, q27, q13, q1] := List.nodup_cons.mpr ⟨al521.not hn_q523, nd499⟩
  have al545 : alv [q523, q477, q433, q391, q351, q313, q277, q243, q211, q181, q153, q127, q103, q81, q61, q43, q27, q13, q1] f524 := by rw [ef524]; exact al521.new
  have hk547 : hm_k (fun q => q = m0) f f524 := by rw [ef524]; exact hk522.upG hn_q523
  refine pF_X8_66 hx hb hts hown hin hK hO hS hH h526 rfl (Nat.le_of_ble_eq_true rfl) rfl dX8_init_152 (fun H locs hH hS => ?_)
  obtain ⟨f548, ef548⟩ : ∃ zz_, zz_ = hm_up f524 m0 (eR 8 [.ref q1, .ref q13, .ref q27, .ref q43, .ref q61, .ref q81, .ref q103, .ref q127, .ref q153, .ref q181, .ref q211, .ref q243, .ref q277, .ref q313, .ref q351, .ref q391, .ref q433, .ref q477, .ref q523, .null, .null, .null, .null, .null, .null, .null, .null, .null, .int 0, .int 0, .int 0, .int 0, .int 0, .int 0, .int 0, .int 0, .int 0, .int 0, .int 0, .int 0, .int 0, .int 0, .int 0, .int 0, .long 0, .long 0]) := ⟨_, rfl⟩
  have hH : hm_H Γ f548 H := by rw [ef548]; exact hH
  have h549 : f548 m0 = some (eR 8 [.ref q1, .ref q13, .ref q27, .ref q43, .ref q61, .ref q81, .ref q103, .ref q127, .ref q153, .ref q181, .ref q211, .ref q243, .ref q277, .ref q313, .ref q351, .ref q391, .ref q433, .ref q477, .ref q523, .null, .null, .null, .null, .null, .null, .null, .null, .null, .int 0, .int 0, .int 0, .int 0, .int 0, .int 0, .int 0, .int 0, .int 0, .int 0, .int 0, .int 0, .int 0, .int 0, .int 0, .int 0, .long 0, .long 0]) := by rw [ef548]; exact hm_us
  have h550 : f548 q1 = some (eI Γ 4 (fun _ => 0)) := by rw [ef548]; exact (hm_un (hm_ne h527 h526 (fun q => by cases q))).trans h527
  have h551 : f548 q13 = some (eJ Γ 8 (fun _ => 0)) := by rw [ef548]; exact (hm_un (hm_ne h528 h526 (fun q => by cases q))).trans h528
  have h552 : f548 q27 = some (eI Γ 8 (fun _ => 0)) := by rw [ef548]; exact (hm_un (hm_ne h529 h526 (fun q => by cases q))).trans h529
  have h553 : f548 q43 = some (eI Γ 8 (fun _ => 0)) := by rw [ef548]; exact (hm_un (hm_ne h530 h526 (fun q => by cases q))).trans h530
  have h554 : f548 q61 = some (eI Γ 8 (fun _ => 0)) := by rw [ef548]; exact (hm_un (hm_ne h531 h526 (fun q => by cases q))).trans h531
  have h555 : f548 q81 = some (eI Γ 8 (fun _ => 0)) := by rw [ef548]; exact (hm_un (hm_ne h532 h526 (fun q => by cases q))).trans h532
  have h556 : f548 q103 = some (eI Γ 8 (fun _ => 0)) := by rw [ef548]; exact (hm_un (hm_ne h533 h526 (fun q => by cases q))).trans h533
  have h557 : f548 q127 = some (eI Γ 8 (fun _ => 0)) := by rw [ef548]; exact (hm_un (hm_ne h534 h526 (fun q => by cases q))).trans h534
  have h558 : f548 q153 = some (eI Γ 8 (fun _ => 0)) := by rw [ef548]; exact (hm_un (hm_ne h535 h526 (fun q => by cases q))).trans h535
  have h559 : f548 q181 = some (eZ Γ 8 (fun _ => 0)) := by rw [ef548]; exact (hm_un (hm_ne h536 h526 (fun q => by cases q))).trans h536
  have h560 : f548 q211 = some (eJ Γ 60 (fun _ => 0)) := by rw [ef548]; exact (hm_un (hm_ne h537 h526 (fun q => by cases q))).trans h537
  have h561 : f548 q243 = some (eI Γ 60 (fun _ => 0)) := by rw [ef548]; exact (hm_un (hm_ne h538 h526 (fun q => by cases q))).trans h538
  have h562 : f548 q277 = some (eI Γ 60 (fun _ => 0)) := by rw [ef548]; exact (hm_un (hm_ne h539 h526 (fun q => by cases q))).trans h539
  have h563 : f548 q313 = some (eI Γ 60 (fun _ => 0)) := by rw [ef548]; exact (hm_un (hm_ne h540 h526 (fun q => by cases q))).trans h540
  have h564 : f548 q351 = some (eJ Γ 64 (fun _ => 0)) := by rw [ef548]; exact (hm_un (hm_ne h541 h526 (fun q => by cases q))).trans h541
  have h565 : f548 q391 = some (eI Γ 64 (fun _ => 0)) := by rw [ef548]; exact (hm_un (hm_ne h542 h526 (fun q => by cases q))).trans h542
  have h566 : f548 q433 = some (eI Γ 64 (fun _ => 0)) := by rw [ef548]; exact (hm_un (hm_ne h543 h526 (fun q => by cases q))).trans h543
  have h567 : f548 q477 = some (eI Γ 64 (fun _ => 0)) := by rw [ef548]; exact (hm_un (hm_ne h544 h526 (fun q => by cases q))).trans h544
  have h568 : f548 q523 = some (eI Γ 64 (fun _ => 0)) := by rw [ef548]; exact (hm_un (hm_ne h525 h526 (fun q => by cases q))).trans h525
  have al569 : alv [q523, q477, q433, q391, q351, q313, q277, q243, q211, q181, q153, q127, q103, q81, q61, q43, q27, q13, q1] f548 := by rw [ef548]; exact al545.up
  have hk570 : hm_k (fun q => q = m0) f f548 := by rw [ef548]; exact hk547.up rfl
  refine lv_aload_n hx hb dX8_init_155 rfl (lv_at hl 0 rfl) ?_
  refine lv_bipush (v := 64) hx hb dX8_init_156 (by decide) ?_
  refine hm_newI hx hb hts hK hO hS hH (N' := 64) (by decide) (by decide) (by decide) (Nat.le_of_ble_eq_true rfl) (Nat.le_of_ble_eq_true rfl) dX8_init_158 (fun q571 H hH hn_q571 hb_q571 hS => ?_)
  obtain ⟨f572, ef572⟩ : ∃ zz_, zz_ = hm_up f548 q571 (eI Γ 64 (fun _ => 0)) := ⟨_, rfl⟩
  have hH : hm_H Γ f572 H := by rw [ef572]; exact hH
  have h573 : f572 q571 = some (eI Γ 64 (fun _ => 0)) := by rw [ef572]; exact hm_us
  have h574 : f572 m0 = some (eR 8 [.ref q1, .ref q13, .ref q27, .ref q43, .ref q61, .ref q81, .ref q103, .ref q127, .ref q153, .ref q181, .ref q211, .ref q243, .ref q277, .ref q313, .ref q351, .ref q391, .ref q433, .ref q477, .ref q523, .null, .null, .null, .null, .null, .null, .null, .null, .null, .int 0, .int 0, .int 0, .int 0, .int 0, .int 0, .int 0, .int 0, .int 0, .int 0, .int 0, .int 0, .int 0, .int 0, .int 0, .int 0, .long 0, .long 0]) := by rw [ef572]; exact (hm_un (hm_nn h549 hn_q571)).trans h549
  have h575 : f572 q1 = some (eI Γ 4 (fun _ => 0)) := by rw [ef572]; exact (hm_un (hm_nn h550 hn_q571)).trans h550
  have h576 : f572 q13 = some (eJ Γ 8 (fun _ => 0)) := by rw [ef572]; exact (hm_un (hm_nn h551 hn_q571)).trans h551
  have h577 : f572 q27 = some (eI Γ 8 (fun _ => 0)) := by rw [ef572]; exact (hm_un (hm_nn h552 hn_q571)).trans h552
  have h578 : f572 q43 = some (eI Γ 8 (fun _ => 0)) := by rw [ef572]; exact (hm_un (hm_nn h553 hn_q571)).trans h553
  have h579 : f572 q61 = some (eI Γ 8 (fun _ => 0)) := by rw [ef572]; exact (hm_un (hm_nn h554 hn_q571)).trans h554
  have h580 : f572 q81 = some (eI Γ 8 (fun _ => 0)) := by rw [ef572]; exact (hm_un (hm_nn h555 hn_q571)).trans h555
  have h581 : f572 q103 = some (eI Γ 8 (fun _ => 0)) := by rw [ef572]; exact (hm_un (hm_nn h556 hn_q571)).trans h556
  have h582 : f572 q127 = some (eI Γ 8 (fun _ => 0)) := by rw [ef572]; exact (hm_un (hm_nn h557 hn_q571)).trans h557
  have h583 : f572 q153 = some (eI Γ 8 (fun _ => 0)) := by rw [ef572]; exact (hm_un (hm_nn h558 hn_q571)).trans h558
  have h584 : f572 q181 = some (eZ Γ 8 (fun _ => 0)) := by rw [ef572]; exact (hm_un (hm_nn h559 hn_q571)).trans h559
  have h585 : f572 q211 = some (eJ Γ 60 (fun _ => 0)) := by rw [ef572]; exact (hm_un (hm_nn h560 hn_q571)).trans h560
  have h586 : f572 q243 = some (eI Γ 60 (fun _ => 0)) := by rw [ef572]; exact (hm_un (hm_nn h561 hn_q571)).trans h561
  have h587 : f572 q277 = some (eI Γ 60 (fun _ => 0)) := by rw [ef572]; exact (hm_un (hm_nn h562 hn_q571)).trans h562
  have h588 : f572 q313 = some (eI Γ 60 (fun _ => 0)) := by rw [ef572]; exact (hm_un (hm_nn h563 hn_q571)).trans h563
  have h589 : f572 q351 = some (eJ Γ 64 (fun _ => 0)) := by rw [ef572]; exact (hm_un (hm_nn h564 hn_q571)).trans h564
  have h590 : f572 q391 = some (eI Γ 64 (fun _ => 0)) := by rw [ef572]; exact (hm_un (hm_nn h565 hn_q571)).trans h565
  have h591 : f572 q433 = some (eI Γ 64 (fun _ => 0)) := by rw [ef572]; exact (hm_un (hm_nn h566 hn_q571)).trans h566
  have h592 : f572 q477 = some (eI Γ 64 (fun _ => 0)) := by rw [ef572]; exact (hm_un (hm_nn h567 hn_q571)).trans h567
  have h593 : f572 q523 = some (eI Γ 64 (fun _ => 0)) := by rw [ef572]; exact (hm_un (hm_nn h568 hn_q571)).trans h568
  have nd595 : List.Nodup [q571, q523, q477, q433, q391, q351, q313, q277, q243, q211, q181, q153, q127, q103, q81, q61, q43, q27, q13, q1] := List.nodup_cons.mpr ⟨al569.not hn_q571, nd546⟩
  have al594 : alv [q571, q523, q477, q433, q391, q351, q313, q277, q243, q211, q181, q153, q127, q103, q81, q61, q43, q27, q13, q1] f572 := by rw [ef572]; exact al569.new
  have hk596 : hm_k (fun q => q = m0) f f572 := by rw [ef572]; exact hk570.upG hn_q571
  refine pF_X8_69 hx hb hts hown hin hK hO hS hH h574 rfl (Nat.le_of_ble_eq_true rfl) rfl dX8_init_160 (fun H locs hH hS => ?_)
  obtain ⟨f597, ef597⟩ : ∃ zz_, zz_ = hm_up f572 m0 (eR 8 [.ref q1, .ref q13, .ref q27, .ref q43, .ref q61, .ref q81, .ref q103, .ref q127, .ref q153, .ref q181, .ref q211, .ref q243, .ref q277, .ref q313, .ref q351, .ref q391, .ref q433, .ref q477, .ref q523, .ref q571, .null, .null, .null, .null, .null, .null, .null, .null, .int 0, .int 0, .int 0, .int 0, .int 0, .int 0, .int 0, .int 0, .int 0, .int 0, .int 0, .int 0, .int 0, .int 0, .int 0, .int 0, .long 0, .long 0]) := ⟨_, rfl⟩
  have hH : hm_H Γ f597 H := by rw [ef597]; exact hH
  have h598 : f597 m0 = some (eR 8 [.ref q1, .ref q13, .ref q27, .ref q43, .ref q61, .ref q81, .ref q103, .ref q127, .ref q153, .ref q181, .ref q211, .ref q243, .ref q277, .ref q313, .ref q351, .ref q391, .ref q433, .ref q477, .ref q523, .ref q571, .null, .null, .null, .null, .null, .null, .null, .null, .int 0, .int 0, .int 0, .int 0, .int 0, .int 0, .int 0, .int 0, .int 0, .int 0, .int 0, .int 0, .int 0, .int 0, .int 0, .int 0, .long 0, .long 0]) := by rw [ef597]; exact hm_us
  have h599 : f597 q1 = some (eI Γ 4 (fun _ => 0)) := by rw [ef597]; exact (hm_un (hm_ne h575 h574 (fun q => by cases q))).trans h575
  have h600 : f597 q13 = some (eJ Γ 8 (fun _ => 0)) := by rw [ef597]; exact (hm_un (hm_ne h576 h574 (fun q => by cases q))).trans h576
  have h601 : f597 q27 = some (eI Γ 8 (fun _ => 0)) := by rw [ef597]; exact (hm_un (hm_ne h577 h574 (fun q => by cases q))).trans h577
  have h602 : f597 q43 = some (eI Γ 8 (fun _ => 0)) := by rw [ef597]; exact (hm_un (hm_ne h578 h574 (fun q => by cases q))).trans h578
  have h603 : f597 q61 = some (eI Γ 8 (fun _ => 0)) := by rw [ef597]; exact (hm_un (hm_ne h579 h574 (fun q => by cases q))).trans h579
  have h604 : f597 q81 = some (eI Γ 8 (fun _ => 0)) := by rw [ef597]; exact (hm_un (hm_ne h580 h574 (fun q => by cases q))).trans h580
  have h605 : f597 q103 = some (eI Γ 8 (fun _ => 0)) := by rw [ef597]; exact (hm_un (hm_ne h581 h574 (fun q => by cases q))).trans h581
  have h606 : f597 q127 = some (eI Γ 8 (fun _ => 0)) := by rw [ef597]; exact (hm_un (hm_ne h582 h574 (fun q => by cases q))).trans h582
  have h607 : f597 q153 = some (eI Γ 8 (fun _ => 0)) := by rw [ef597]; exact (hm_un (hm_ne h583 h574 (fun q => by cases q))).trans h583
  have h608 : f597 q181 = some (eZ Γ 8 (fun _ => 0)) := by rw [ef597]; exact (hm_un (hm_ne h584 h574 (fun q => by cases q))).trans h584
  have h609 : f597 q211 = some (eJ Γ 60 (fun _ => 0)) := by rw [ef597]; exact (hm_un (hm_ne h585 h574 (fun q => by cases q))).trans h585
  have h610 : f597 q243 = some (eI Γ 60 (fun _ => 0)) := by rw [ef597]; exact (hm_un (hm_ne h586 h574 (fun q => by cases q))).trans h586
  have h611 : f597 q277 = some (eI Γ 60 (fun _ => 0)) := by rw [ef597]; exact (hm_un (hm_ne h587 h574 (fun q => by cases q))).trans h587
  have h612 : f597 q313 = some (eI Γ 60 (fun _ => 0)) := by rw [ef597]; exact (hm_un (hm_ne h588 h574 (fun q => by cases q))).trans h588
  have h613 : f597 q351 = some (eJ Γ 64 (fun _ => 0)) := by rw [ef597]; exact (hm_un (hm_ne h589 h574 (fun q => by cases q))).trans h589
  have h614 : f597 q391 = some (eI Γ 64 (fun _ => 0)) := by rw [ef597]; exact (hm_un (hm_ne h590 h574 (fun q => by cases q))).trans h590
  have h615 : f597 q433 = some (eI Γ 64 (fun _ => 0)) := by rw [ef597]; exact (hm_un (hm_ne h591 h574 (fun q => by cases q))).trans h591
  have h616 : f597 q477 = some (eI Γ 64 (fun _ => 0)) := by rw [ef597]; exact (hm_un (hm_ne h592 h574 (fun q => by cases q))).trans h592
  have h617 : f597 q523 = some (eI Γ 64 (fun _ => 0)) := by rw [ef597]; exact (hm_un (hm_ne h593 h574 (fun q => by cases q))).trans h593
  have h618 : f597 q571 = some (eI Γ 64 (fun _ => 0)) := by rw [ef597]; exact (hm_un (hm_ne h573 h574 (fun q => by cases q))).trans h573
  have al619 : alv [q571, q523, q477, q433, q391, q351, q313, q277, q243, q211, q181, q153, q127, q103, q81, q61, q43, q27, q13, q1] f597 := by rw [ef597]; exact al594.up
  have hk620 : hm_k (fun q => q = m0) f f597 := by rw [ef597]; exact hk596.up rfl
  refine lv_aload_n hx hb dX8_init_163 rfl (lv_at hl 0 rfl) ?_
  refine lv_bipush (v := 64) hx hb dX8_init_164 (by decide) ?_
  refine hm_newI hx hb hts hK hO hS hH (N' := 64) (by decide) (by decide) (by decide) (Nat.le_of_ble_eq_true rfl) (Nat.le_of_ble_eq_true rfl) dX8_init_166 (fun q621 H hH hn_q621 hb_q621 hS => ?_)
  obtain ⟨f622, ef622⟩ : ∃ zz_, zz_ = hm_up f597 q621 (eI Γ 64 (fun _ => 0)) := ⟨_, rfl⟩
  have hH : hm_H Γ f622 H := by rw [ef622]; exact hH
  have h623 : f622 q621 = some (eI Γ 64 (fun _ => 0)) := by rw [ef622]; exact hm_us
  have h624 : f622 m0 = some (eR 8 [.ref q1, .ref q13, .ref q27, .ref q43, .ref q61, .ref q81, .ref q103, .ref q127, .ref q153, .ref q181, .ref q211, .ref q243, .ref q277, .ref q313, .ref q351, .ref q391, .ref q433, .ref q477, .ref q523, .ref q571, .null, .null, .null, .null, .null, .null, .null, .null, .int 0, .int 0, .int 0, .int 0, .int 0, .int 0, .int 0, .int 0, .int 0, .int 0, .int 0, .int 0, .int 0, .int 0, .int 0, .int 0, .long 0, .long 0]) := by rw [ef622]; exact (hm_un (hm_nn h598 hn_q621)).trans h598
  have h625 : f622 q1 = some (eI Γ 4 (fun _ => 0)) := by rw [ef622]; exact (hm_un (hm_nn h599 hn_q621)).trans h599
  have h626 : f622 q13 = some (eJ Γ 8 (fun _ => 0)) := by rw [ef622]; exact (hm_un (hm_nn h600 hn_q621)).trans h600
  have h627 : f622 q27 = some (eI Γ 8 (fun _ => 0)) := by rw [ef622]; exact (hm_un (hm_nn h601 hn_q621)).trans h601
  have h628 : f622 q43 = some (eI Γ 8 (fun _ => 0)) := by rw [ef622]; exact (hm_un (hm_nn h602 hn_q621)).trans h602
  have h629 : f622 q61 = some (eI Γ 8 (fun _ => 0)) := by rw [ef622]; exact (hm_un (hm_nn h603 hn_q621)).trans h603
  have h630 : f622 q81 = some (eI Γ 8 (fun _ => 0)) := by rw [ef622]; exact (hm_un (hm_nn h604 hn_q621)).trans h604
  have h631 : f622 q103 = some (eI Γ 8 (fun _ => 0)) := by rw [ef622]; exact (hm_un (hm_nn h605 hn_q621)).trans h605
  have h632 : f622 q127 = some (eI Γ 8 (fun _ => 0)) := by rw [ef622]; exact (hm_un (hm_nn h606 hn_q621)).trans h606
  have h633 : f622 q153 = some (eI Γ 8 (fun _ => 0)) := by rw [ef622]; exact (hm_un (hm_nn h607 hn_q621)).trans h607
  have h634 : f622 q181 = some (eZ Γ 8 (fun _ => 0)) := by rw [ef622]; exact (hm_un (hm_nn h608 hn_q621)).trans h608
  have h635 : f622 q211 = some (eJ Γ 60 (fun _ => 0)) := by rw [ef622]; exact (hm_un (hm_nn h609 hn_q621)).trans h609
  have h636 : f622 q243 = some (eI Γ 60 (fun _ => 0)) := by rw [ef622]; exact (hm_un (hm_nn h610 hn_q621)).trans h610
  have h637 : f622 q277 = some (eI Γ 60 (fun _ => 0)) := by rw [ef622]; exact (hm_un (hm_nn h611 hn_q621)).trans h611
  have h638 : f622 q313 = some (eI Γ 60 (fun _ => 0)) := by rw [ef622]; exact (hm_un (hm_nn h612 hn_q621)).trans h612
  have h639 : f622 q351 = some (eJ Γ 64 (fun _ => 0)) := by rw [ef622]; exact (hm_un (hm_nn h613 hn_q621)).trans h613
  have h640 : f622 q391 = some (eI Γ 64 (fun _ => 0)) := by rw [ef622]; exact (hm_un (hm_nn h614 hn_q621)).trans h614
  have h641 : f622 q433 = some (eI Γ 64 (fun _ => 0)) := by rw [ef622]; exact (hm_un (hm_nn h615 hn_q621)).trans h615
  have h642 : f622 q477 = some (eI Γ 64 (fun _ => 0)) := by rw [ef622]; exact (hm_un (hm_nn h616 hn_q621)).trans h616
  have h643 : f622 q523 = some (eI Γ 64 (fun _ => 0)) := by rw [ef622]; exact (hm_un (hm_nn h617 hn_q621)).trans h617
  have h644 : f622 q571 = some (eI Γ 64 (fun _ => 0)) := by rw [ef622]; exact (hm_un (hm_nn h618 hn_q621)).trans h618
  have nd646 : List.Nodup [q621, q571, q523, q477, q433, q391, q351, q313, q277, q243, q211, q181, q153, q127, q103, q81, q61, q43, q27, q13, q1] := List.nodup_cons.mpr ⟨al619.not hn_q621, nd595⟩
  have al645 : alv [q621, q571, q523, q477, q433, q391, q351, q313, q277, q243, q211, q181, q153, q127, q103, q81, q61, q43, q27, q13, q1] f622 := by rw [ef622]; exact al619.new
  have hk647 : hm_k (fun q => q = m0) f f622 := by rw [ef622]; exact hk620.upG hn_q621
  refine pF_X8_72 hx hb hts hown hin hK hO hS hH h624 rfl (Nat.le_of_ble_eq_true rfl) rfl dX8_init_168 (fun H locs hH hS => ?_)
  obtain ⟨f648, ef648⟩ : ∃ zz_, zz_ = hm_up f622 m0 (eR 8 [.ref q1, .ref q13, .ref q27, .ref q43, .ref q61, .ref q81, .ref q103, .ref q127, .ref q153, .ref q181, .ref q211, .ref q243, .ref q277, .ref q313, .ref q351, .ref q391, .ref q433, .ref q477, .ref q523, .ref q571, .ref q621, .null, .null, .null, .null, .null, .null, .null, .int 0, .int 0, .int 0, .int 0, .int 0, .int 0, .int 0, .int 0, .int 0, .int 0, .int 0, .int 0, .int 0, .int 0, .int 0, .int 0, .long 0, .long 0]) := ⟨_, rfl⟩
  have hH : hm_H Γ f648 H := by rw [ef648]; exact hH
  have h649 : f648 m0 = some (eR 8 [.ref q1, .ref q13, .ref q27, .ref q43, .ref q61, .ref q81, .ref q103, .ref q127, .ref q153, .ref q181, .ref q211, .ref q243, .ref q277, .ref q313, .ref q351, .ref q391, .ref q433, .ref q477, .ref q523, .ref q571, .ref q621, .null, .null, .null, .null, .null, .null, .null, .int 0, .int 0, .int 0, .int 0, .int 0, .int 0, .int 0, .int 0, .int 0, .int 0, .int 0, .int 0, .int 0, .int 0, .int 0, .int 0, .long 0, .long 0]) := by rw [ef648]; exact hm_us
  have h650 : f648 q1 = some (eI Γ 4 (fun _ => 0)) := by rw [ef648]; exact (hm_un (hm_ne h625 h624 (fun q => by cases q))).trans h625
  have h651 : f648 q13 = some (eJ Γ 8 (fun _ => 0)) := by rw [ef648]; exact (hm_un (hm_ne h626 h624 (fun q => by cases q))).trans h626
  have h652 : f648 q27 = some (eI Γ 8 (fun _ => 0)) := by rw [ef648]; exact (hm_un (hm_ne h627 h624 (fun q => by cases q))).trans h627
  have h653 : f648 q43 = some (eI Γ 8 (fun _ => 0)) := by rw [ef648]; exact (hm_un (hm_ne h628 h624 (fun q => by cases q))).trans h628
  have h654 : f648 q61 = some (eI Γ 8 (fun _ => 0)) := by rw [ef648]; exact (hm_un (hm_ne h629 h624 (fun q => by cases q))).trans h629
  have h655 : f648 q81 = some (eI Γ 8 (fun _ => 0)) := by rw [ef648]; exact (hm_un (hm_ne h630 h624 (fun q => by cases q))).trans h630
  have h656 : f648 q103 = some (eI Γ 8 (fun _ => 0)) := by rw [ef648]; exact (hm_un (hm_ne h631 h624 (fun q => by cases q))).trans h631
  have h657 : f648 q127 = some (eI Γ 8 (fun _ => 0)) := by rw [ef648]; exact (hm_un (hm_ne h632 h624 (fun q => by cases q))).trans h632
  have h658 : f648 q153 = some (eI Γ 8 (fun _ => 0)) := by rw [ef648]; exact (hm_un (hm_ne h633 h624 (fun q => by cases q))).trans h633
  have h659 : f648 q181 = some (eZ Γ 8 (fun _ => 0)) := by rw [ef648]; exact (hm_un (hm_ne h634 h624 (fun q => by cases q))).trans h634
  have h660 : f648 q211 = some (eJ Γ 60 (fun _ => 0)) := by rw [ef648]; exact (hm_un (hm_ne h635 h624 (fun q => by cases q))).trans h635
  have h661 : f648 q243 = some (eI Γ 60 (fun _ => 0)) := by rw [ef648]; exact (hm_un (hm_ne h636 h624 (fun q => by cases q))).trans h636
  have h662 : f648 q277 = some (eI Γ 60 (fun _ => 0)) := by rw [ef648]; exact (hm_un (hm_ne h637 h624 (fun q => by cases q))).trans h637
  have h663 : f648 q313 = some (eI Γ 60 (fun _ => 0)) := by rw [ef648]; exact (hm_un (hm_ne h638 h624 (fun q => by cases q))).trans h638
  have h664 : f648 q351 = some (eJ Γ 64 (fun _ => 0)) := by rw [ef648]; exact (hm_un (hm_ne h639 h624 (fun q => by cases q))).trans h639
  have h665 : f648 q391 = some (eI Γ 64 (fun _ => 0)) := by rw [ef648]; exact (hm_un (hm_ne h640 h624 (fun q => by cases q))).trans h640
  have h666 : f648 q433 = some (eI Γ 64 (fun _ => 0)) := by rw [ef648]; exact (hm_un (hm_ne h641 h624 (fun q => by cases q))).trans h641
  have h667 : f648 q477 = some (eI Γ 64 (fun _ => 0)) := by rw [ef648]; exact (hm_un (hm_ne h642 h624 (fun q => by cases q))).trans h642
  have h668 : f648 q523 = some (eI Γ 64 (fun _ => 0)) := by rw [ef648]; exact (hm_un (hm_ne h643 h624 (fun q => by cases q))).trans h643
  have h669 : f648 q571 = some (eI Γ 64 (fun _ => 0)) := by rw [ef648]; exact (hm_un (hm_ne h644 h624 (fun q => by cases q))).trans h644
  have h670 : f648 q621 = some (eI Γ 64 (fun _ => 0)) := by rw [ef648]; exact (hm_un (hm_ne h623 h624 (fun q => by cases q))).trans h623
  have al671 : alv [q621, q571, q523, q477, q433, q391, q351, q313, q277, q243, q211, q181, q153, q127, q103, q81, q61, q43, q27, q13, q1] f648 := by rw [ef648]; exact al645.up
  have hk672 : hm_k (fun q => q = m0) f f648 := by rw [ef648]; exact hk647.up rfl
  refine lv_aload_n hx hb dX8_init_171 rfl (lv_at hl 0 rfl) ?_
  refine lv_bipush (v := 6) hx hb dX8_init_172 (by decide) ?_
  refine hm_newJ hx hb hts hK hO hS hH (N' := 6) (by decide) (by decide) (by decide) (Nat.le_of_ble_eq_true rfl) (Nat.le_of_ble_eq_true rfl) dX8_init_174 (fun q673 H hH hn_q673 hb_q673 hS => ?_)
  obtain ⟨f674, ef674⟩ : ∃ zz_, zz_ = hm_up f648 q673 (eJ Γ 6 (fun _ => 0)) := ⟨_, rfl⟩
  have hH : hm_H Γ f674 H := by rw [ef674]; exact hH
  have h675 : f674 q673 = some (eJ Γ 6 (fun _ => 0)) := by rw [ef674]; exact hm_us
  have h676 : f674 m0 = some (eR 8 [.ref q1, .ref q13, .ref q27, .ref q43, .ref q61, .ref q81, .ref q103, .ref q127, .ref q153, .ref q181, .ref q211, .ref q243, .ref q277, .ref q313, .ref q351, .ref q391, .ref q433, .ref q477, .ref q523, .ref q571, .ref q621, .null, .null, .null, .null, .null, .null, .null, .int 0, .int 0, .int 0, .int 0, .int 0, .int 0, .int 0, .int 0, .int 0, .int 0, .int 0, .int 0, .int 0, .int 0, .int 0, .int 0, .long 0, .long 0]) := by rw [ef674]; exact (hm_un (hm_nn h649 hn_q673)).trans h649
  have h677 : f674 q1 = some (eI Γ 4 (fun _ => 0)) := by rw [ef674]; exact (hm_un (hm_nn h650 hn_q673)).trans h650
  have h678 : f674 q13 = some (eJ Γ 8 (fun _ => 0)) := by rw [ef674]; exact (hm_un (hm_nn h651 hn_q673)).trans h651
  have h679 : f674 q27 = some (eI Γ 8 (fun _ => 0)) := by rw [ef674]; exact (hm_un (hm_nn h652 hn_q673)).trans h652
  have h680 : f674 q43 = some (eI Γ 8 (fun _ => 0)) := by rw [ef674]; exact (hm_un (hm_nn h653 hn_q673)).trans h653
  have h681 : f674 q61 = some (eI Γ 8 (fun _ => 0)) := by rw [ef674]; exact (hm_un (hm_nn h654 hn_q673)).trans h654
  have h682 : f674 q81 = some (eI Γ 8 (fun _ => 0)) := by rw [ef674]; exact (hm_un (hm_nn h655 hn_q673)).trans h655
  have h683 : f674 q103 = some (eI Γ 8 (fun _ => 0)) := by rw [ef674]; exact (hm_un (hm_nn h656 hn_q673)).trans h656
  have h684 : f674 q127 = some (eI Γ 8 (fun _ => 0)) := by rw [ef674]; exact (hm_un (hm_nn h657 hn_q673)).trans h657
  have h685 : f674 q153 = some (eI Γ 8 (fun _ => 0)) := by rw [ef674]; exact (hm_un (hm_nn h658 hn_q673)).trans h658
  have h686 : f674 q181 = some (eZ Γ 8 (fun _ => 0)) := by rw [ef674]; exact (hm_un (hm_nn h659 hn_q673)).trans h659
  have h687 : f674 q211 = some (eJ Γ 60 (fun _ => 0)) := by rw [ef674]; exact (hm_un (hm_nn h660 hn_q673)).trans h660
  have h688 : f674 q243 = some (eI Γ 60 (fun _ => 0)) := by rw [ef674]; exact (hm_un (hm_nn h661 hn_q673)).trans h661
  have h689 : f674 q277 = some (eI Γ 60 (fun _ => 0)) := by rw [ef674]; exact (hm_un (hm_nn h662 hn_q673)).trans h662
  have h690 : f674 q313 = some (eI Γ 60 (fun _ => 0)) := by rw [ef674]; exact (hm_un (hm_nn h663 hn_q673)).trans h663
  have h691 : f674 q351 = some (eJ Γ 64 (fun _ => 0)) := by rw [ef674]; exact (hm_un (hm_nn h664 hn_q673)).trans h664
  have h692 : f674 q391 = some (eI Γ 64 (fun _ => 0)) := by rw [ef674]; exact (hm_un (hm_nn h665 hn_q673)).trans h665
  have h693 : f674 q433 = some (eI Γ 64 (fun _ => 0)) := by rw [ef674]; exact (hm_un (hm_nn h666 hn_q673)).trans h666
  have h694 : f674 q477 = some (eI Γ 64 (fun _ => 0)) := by rw [ef674]; exact (hm_un (hm_nn h667 hn_q673)).trans h667
  have h695 : f674 q523 = some (eI Γ 64 (fun _ => 0)) := by rw [ef674]; exact (hm_un (hm_nn h668 hn_q673)).trans h668
  have h696 : f674 q571 = some (eI Γ 64 (fun _ => 0)) := by rw [ef674]; exact (hm_un (hm_nn h669 hn_q673)).trans h669
  have h697 : f674 q621 = some (eI Γ 64 (fun _ => 0)) := by rw [ef674]; exact (hm_un (hm_nn h670 hn_q673)).trans h670
  have nd699 : List.Nodup [q673, q621, q571, q523, q477, q433, q391, q351, q313, q277, q243, q211, q181, q153, q127, q103, q81, q61, q43, q27, q13, q1] := List.nodup_cons.mpr ⟨al671.not hn_q673, nd646⟩
  have al698 : alv [q673, q621, q571, q523, q477, q433, q391, q351, q313, q277, q243, q211, q181, q153, q127, q103, q81, q61, q43, q27, q13, q1] f674 := by rw [ef674]; exact al671.new
  have hk700 : hm_k (fun q => q = m0) f f674 := by rw [ef674]; exact hk672.upG hn_q673
  refine pF_X8_75 hx hb hts hown hin hK hO hS hH h676 rfl (Nat.le_of_ble_eq_true rfl) rfl dX8_init_176 (fun H locs hH hS => ?_)
  obtain ⟨f701, ef701⟩ : ∃ zz_, zz_ = hm_up f674 m0 (eR 8 [.ref q1, .ref q13, .ref q27, .ref q43, .ref q61, .ref q81, .ref q103, .ref q127, .ref q153, .ref q181, .ref q211, .ref q243, .ref q277, .ref q313, .ref q351, .ref q391, .ref q433, .ref q477, .ref q523, .ref q571, .ref q621, .ref q673, .null, .null, .null, .null, .null, .null, .int 0, .int 0, .int 0, .int 0, .int 0, .int 0, .int 0, .int 0, .int 0, .int 0, .int 0, .int 0, .int 0, .int 0, .int 0, .int 0, .long 0, .long 0]) := ⟨_, rfl⟩
  have hH : hm_H Γ f701 H := by rw [ef701]; exact hH
  have h702 : f701 m0 = some (eR 8 [.ref q1, .ref q13, .ref q27, .ref q43, .ref q61, .ref q81, .ref q103, .ref q127, .ref q153, .ref q181, .ref q211, .ref q243, .ref q277, .ref q313, .ref q351, .ref q391, .ref q433, .ref q477, .ref q523, .ref q571, .ref q621, .ref q673, .null, .null, .null, .null, .null, .null, .int 0, .int 0, .int 0, .int 0, .int 0, .int 0, .int 0, .int 0, .int 0, .int 0, .int 0, .int 0, .int 0, .int 0, .int 0, .int 0, .long 0, .long 0]) := by rw [ef701]; exact hm_us
  have h703 : f701 q1 = some (eI Γ 4 (fun _ => 0)) := by rw [ef701]; exact (hm_un (hm_ne h677 h676 (fun q => by cases q))).trans h677
  have h704 : f701 q13 = some (eJ Γ 8 (fun _ => 0)) := by rw [ef701]; exact (hm_un (hm_ne h678 h676 (fun q => by cases q))).trans h678
  have h705 : f701 q27 = some (eI Γ 8 (fun _ => 0)) := by rw [ef701]; exact (hm_un (hm_ne h679 h676 (fun q => by cases q))).trans h679
  have h706 : f701 q43 = some (eI Γ 8 (fun _ => 0)) := by rw [ef701]; exact (hm_un (hm_ne h680 h676 (fun q => by cases q))).trans h680
  have h707 : f701 q61 = some (eI Γ 8 (fun _ => 0)) := by rw [ef701]; exact (hm_un (hm_ne h681 h676 (fun q => by cases q))).trans h681
  have h708 : f701 q81 = some (eI Γ 8 (fun _ => 0)) := by rw [ef701]; exact (hm_un (hm_ne h682 h676 (fun q => by cases q))).trans h682
  have h709 : f701 q103 = some (eI Γ 8 (fun _ => 0)) := by rw [ef701]; exact (hm_un (hm_ne h683 h676 (fun q => by cases q))).trans h683
  have h710 : f701 q127 = some (eI Γ 8 (fun _ => 0)) := by rw [ef701]; exact (hm_un (hm_ne h684 h676 (fun q => by cases q))).trans h684
  have h711 : f701 q153 = some (eI Γ 8 (fun _ => 0)) := by rw [ef701]; exact (hm_un (hm_ne h685 h676 (fun q => by cases q))).trans h685
  have h712 : f701 q181 = some (eZ Γ 8 (fun _ => 0)) := by rw [ef701]; exact (hm_un (hm_ne h686 h676 (fun q => by cases q))).trans h686
  have h713 : f701 q211 = some (eJ Γ 60 (fun _ => 0)) := by rw [ef701]; exact (hm_un (hm_ne h687 h676 (fun q => by cases q))).trans h687
  have h714 : f701 q243 = some (eI Γ 60 (fun _ => 0)) := by rw [ef701]; exact (hm_un (hm_ne h688 h676 (fun q => by cases q))).trans h688
  have h715 : f701 q277 = some (eI Γ 60 (fun _ => 0)) := by rw [ef701]; exact (hm_un (hm_ne h689 h676 (fun q => by cases q))).trans h689
  have h716 : f701 q313 = some (eI Γ 60 (fun _ => 0)) := by rw [ef701]; exact (hm_un (hm_ne h690 h676 (fun q => by cases q))).trans h690
  have h717 : f701 q351 = some (eJ Γ 64 (fun _ => 0)) := by rw [ef701]; exact (hm_un (hm_ne h691 h676 (fun q => by cases q))).trans h691
  have h718 : f701 q391 = some (eI Γ 64 (fun _ => 0)) := by rw [ef701]; exact (hm_un (hm_ne h692 h676 (fun q => by cases q))).trans h692
  have h719 : f701 q433 = some (eI Γ 64 (fun _ => 0)) := by rw [ef701]; exact (hm_un (hm_ne h693 h676 (fun q => by cases q))).trans h693
  have h720 : f701 q477 = some (eI Γ 64 (fun _ => 0)) := by rw [ef701]; exact (hm_un (hm_ne h694 h676 (fun q => by cases q))).trans h694
  have h721 : f701 q523 = some (eI Γ 64 (fun _ => 0)) := by rw [ef701]; exact (hm_un (hm_ne h695 h676 (fun q => by cases q))).trans h695
  have h722 : f701 q571 = some (eI Γ 64 (fun _ => 0)) := by rw [ef701]; exact (hm_un (hm_ne h696 h676 (fun q => by cases q))).trans h696
  have h723 : f701 q621 = some (eI Γ 64 (fun _ => 0)) := by rw [ef701]; exact (hm_un (hm_ne h697 h676 (fun q => by cases q))).trans h697
  have h724 : f701 q673 = some (eJ Γ 6 (fun _ => 0)) := by rw [ef701]; exact (hm_un (hm_ne h675 h676 (fun q => by cases q))).trans h675
  have al725 : alv [q673, q621, q571, q523, q477, q433, q391, q351, q313, q277, q243, q211, q181, q153, q127, q103, q81, q61, q43, q27, q13, q1] f701 := by rw [ef701]; exact al698.up
  have hk726 : hm_k (fun q => q = m0) f f701 := by rw [ef701]; exact hk700.up rfl
  refine lv_aload_n hx hb dX8_init_179 rfl (lv_at hl 0 rfl) ?_
  refine lv_bipush (v := 6) hx hb dX8_init_180 (by decide) ?_
  refine hm_newI hx hb hts hK hO hS hH (N' := 6) (by decide) (by decide) (by decide) (Nat.le_of_ble_eq_true rfl) (Nat.le_of_ble_eq_true rfl) dX8_init_182 (fun q727 H hH hn_q727 hb_q727 hS => ?_)
  obtain ⟨f728, ef728⟩ : ∃ zz_, zz_ = hm_up f701 q727 (eI Γ 6 (fun _ => 0)) := ⟨_, rfl⟩
  have hH : hm_H Γ f728 H := by rw [ef728]; exact hH
  have h729 : f728 q727 = some (eI Γ 6 (fun _ => 0)) := by rw [ef728]; exact hm_us
  have h730 : f728 m0 = some (eR 8 [.ref q1, .ref q13, .ref q27, .ref q43, .ref q61, .ref q81, .ref q103, .ref q127, .ref q153, .ref q181, .ref q211, .ref q243, .ref q277, .ref q313, .ref q351, .ref q391, .ref q433, .ref q477, .ref q523, .ref q571, .ref q621, .ref q673, .null, .null, .null, .null, .null, .null, .int 0, .int 0, .int 0, .int 0, .int 0, .int 0, .int 0, .int 0, .int 0, .int 0, .int 0, .int 0, .int 0, .int 0, .int 0, .int 0, .long 0, .long 0]) := by rw [ef728]; exact (hm_un (hm_nn h702 hn_q727)).trans h702
  have h731 : f728 q1 = some (eI Γ 4 (fun _ => 0)) := by rw [ef728]; exact (hm_un (hm_nn h703 hn_q727)).trans h703
  have h732 : f728 q13 = some (eJ Γ 8 (fun _ => 0)) := by rw [ef728]; exact (hm_un (hm_nn h704 hn_q727)).trans h704
  have h733 : f728 q27 = some (eI Γ 8 (fun _ => 0)) := by rw [ef728]; exact (hm_un (hm_nn h705 hn_q727)).trans h705
  have h734 : f728 q43 = some (eI Γ 8 (fun _ => 0)) := by rw [ef728]; exact (hm_un (hm_nn h706 hn_q727)).trans h706
  have h735 : f728 q61 = some (eI Γ 8 (fun _ => 0)) := by rw [ef728]; exact (hm_un (hm_nn h707 hn_q727)).trans h707
  have h736 : f728 q81 = some (eI Γ 8 (fun _ => 0)) := by rw [ef728]; exact (hm_un (hm_nn h708 hn_q727)).trans h708
  have h737 : f728 q103 = some (eI Γ 8 (fun _ => 0)) := by rw [ef728]; exact (hm_un (hm_nn h709 hn_q727)).trans h709
  have h738 : f728 q127 = some (eI Γ 8 (fun _ => 0)) := by rw [ef728]; exact (hm_un (hm_nn h710 hn_q727)).trans h710
  have h739 : f728 q153 = some (eI Γ 8 (fun _ => 0)) := by rw [ef728]; exact (hm_un (hm_nn h711 hn_q727)).trans h711
  have h740 : f728 q181 = some (eZ Γ 8 (fun _ => 0)) := by rw [ef728]; exact (hm_un (hm_nn h712 hn_q727)).trans h712
  have h741 : f728 q211 = some (eJ Γ 60 (fun _ => 0)) := by rw [ef728]; exact (hm_un (hm_nn h713 hn_q727)).trans h713
  have h742 : f728 q243 = some (eI Γ 60 (fun _ => 0)) := by rw [ef728]; exact (hm_un (hm_nn h714 hn_q727)).trans h714
  have h743 : f728 q277 = some (eI Γ 60 (fun _ => 0)) := by rw [ef728]; exact (hm_un (hm_nn h715 hn_q727)).trans h715
  have h744 : f728 q313 = some (eI Γ 60 (fun _ => 0)) := by rw [ef728]; exact (hm_un (hm_nn h716 hn_q727)).trans h716
  have h745 : f728 q351 = some (eJ Γ 64 (fun _ => 0)) := by rw [ef728]; exact (hm_un (hm_nn h717 hn_q727)).trans h717
  have h746 : f728 q391 = some (eI Γ 64 (fun _ => 0)) := by rw [ef728]; exact (hm_un (hm_nn h718 hn_q727)).trans h718
  have h747 : f728 q433 = some (eI Γ 64 (fun _ => 0)) := by rw [ef728]; exact (hm_un (hm_nn h719 hn_q727)).trans h719
  have h748 : f728 q477 = some (eI Γ 64 (fun _ => 0)) := by rw [ef728]; exact (hm_un (hm_nn h720 hn_q727)).trans h720
  have h749 : f728 q523 = some (eI Γ 64 (fun _ => 0)) := by rw [ef728]; exact (hm_un (hm_nn h721 hn_q727)).trans h721
  have h750 : f728 q571 = some (eI Γ 64 (fun _ => 0)) := by rw [ef728]; exact (hm_un (hm_nn h722 hn_q727)).trans h722
  have h751 : f728 q621 = some (eI Γ 64 (fun _ => 0)) := by rw [ef728]; exact (hm_un (hm_nn h723 hn_q727)).trans h723
  have h752 : f728 q673 = some (eJ Γ 6 (fun _ => 0)) := by rw [ef728]; exact (hm_un (hm_nn h724 hn_q727)).trans h724
  have nd754 : List.Nodup [q727, q673, q621, q571, q523, q477, q433, q391, q351, q313, q277, q243, q211, q181, q153, q127, q103, q81, q61, q43, q27, q13, q1] := List.nodup_cons.mpr ⟨al725.not hn_q727, nd699⟩
  have al753 : alv [q727, q673, q621, q571, q523, q477, q433, q391, q351, q313, q277, q243, q211, q181, q153, q127, q103, q81, q61, q43, q27, q13, q1] f728 := by rw [ef728]; exact al725.new
  have hk755 : hm_k (fun q => q = m0) f f728 := by rw [ef728]; exact hk726.upG hn_q727
  refine pF_X8_78 hx hb hts hown hin hK hO hS hH h730 rfl (Nat.le_of_ble_eq_true rfl) rfl dX8_init_184 (fun H locs hH hS => ?_)
  obtain ⟨f756, ef756⟩ : ∃ zz_, zz_ = hm_up f728 m0 (eR 8 [.ref q1, .ref q13, .ref q27, .ref q43, .ref q61, .ref q81, .ref q103, .ref q127, .ref q153, .ref q181, .ref q211, .ref q243, .ref q277, .ref q313, .ref q351, .ref q391, .ref q433, .ref q477, .ref q523, .ref q571, .ref q621, .ref q673, .ref q727, .null, .null, .null, .null, .null, .int 0, .int 0, .int 0, .int 0, .int 0, .int 0, .int 0, .int 0, .int 0, .int 0, .int 0, .int 0, .int 0, .int 0, .int 0, .int 0, .long 0, .long 0]) := ⟨_, rfl⟩
  have hH : hm_H Γ f756 H := by rw [ef756]; exact hH
  have h757 : f756 m0 = some (eR 8 [.ref q1, .ref q13, .ref q27, .ref q43, .ref q61, .ref q81, .ref q103, .ref q127, .ref q153, .ref q181, .ref q211, .ref q243, .ref q277, .ref q313, .ref q351, .ref q391, .ref q433, .ref q477, .ref q523, .ref q571, .ref q621, .ref q673, .ref q727, .null, .null, .null, .null, .null, .int 0, .int 0, .int 0, .int 0, .int 0, .int 0, .int 0, .int 0, .int 0, .int 0, .int 0, .int 0, .int 0, .int 0, .int 0, .int 0, .long 0, .long 0]) := by rw [ef756]; exact hm_us
  have h758 : f756 q1 = some (eI Γ 4 (fun _ => 0)) := by rw [ef756]; exact (hm_un (hm_ne h731 h730 (fun q => by cases q))).trans h731
  have h759 : f756 q13 = some (eJ Γ 8 (fun _ => 0)) := by rw [ef756]; exact (hm_un (hm_ne h732 h730 (fun q => by cases q))).trans h732
  have h760 : f756 q27 = some (eI Γ 8 (fun _ => 0)) := by rw [ef756]; exact (hm_un (hm_ne h733 h730 (fun q => by cases q))).trans h733
  have h761 : f756 q43 = some (eI Γ 8 (fun _ => 0)) := by rw [ef756]; exact (hm_un (hm_ne h734 h730 (fun q => by cases q))).trans h734
  have h762 : f756 q61 = some (eI Γ 8 (fun _ => 0)) := by rw [ef756]; exact (hm_un (hm_ne h735 h730 (fun q => by cases q))).trans h735
  have h763 : f756 q81 = some (eI Γ 8 (fun _ => 0)) := by rw [ef756]; exact (hm_un (hm_ne h736 h730 (fun q => by cases q))).trans h736
  have h764 : f756 q103 = some (eI Γ 8 (fun _ => 0)) := by rw [ef756]; exact (hm_un (hm_ne h737 h730 (fun q => by cases q))).trans h737
  have h765 : f756 q127 = some (eI Γ 8 (fun _ => 0)) := by rw [ef756]; exact (hm_un (hm_ne h738 h730 (fun q => by cases q))).trans h738
  have h766 : f756 q153 = some (eI Γ 8 (fun _ => 0)) := by rw [ef756]; exact (hm_un (hm_ne h739 h730 (fun q => by cases q))).trans h739
  have h767 : f756 q181 = some (eZ Γ 8 (fun _ => 0)) := by rw [ef756]; exact (hm_un (hm_ne h740 h730 (fun q => by cases q))).trans h740
  have h768 : f756 q211 = some (eJ Γ 60 (fun _ => 0)) := by rw [ef756]; exact (hm_un (hm_ne h741 h730 (fun q => by cases q))).trans h741
  have h769 : f756 q243 = some (eI Γ 60 (fun _ => 0)) := by rw [ef756]; exact (hm_un (hm_ne h742 h730 (fun q => by cases q))).trans h742
  have h770 : f756 q277 = some (eI Γ 60 (fun _ => 0)) := by rw [ef756]; exact (hm_un (hm_ne h743 h730 (fun q => by cases q))).trans h743
  have h771 : f756 q313 = some (eI Γ 60 (fun _ => 0)) := by rw [ef756]; exact (hm_un (hm_ne h744 h730 (fun q => by cases q))).trans h744
  have h772 : f756 q351 = some (eJ Γ 64 (fun _ => 0)) := by rw [ef756]; exact (hm_un (hm_ne h745 h730 (fun q => by cases q))).trans h745
  have h773 : f756 q391 = some (eI Γ 64 (fun _ => 0)) := by rw [ef756]; exact (hm_un (hm_ne h746 h730 (fun q => by cases q))).trans h746
  have h774 : f756 q433 = some (eI Γ 64 (fun _ => 0)) := by rw [ef756]; exact (hm_un (hm_ne h747 h730 (fun q => by cases q))).trans h747
  have h775 : f756 q477 = some (eI Γ 64 (fun _ => 0)) := by rw [ef756]; exact (hm_un (hm_ne h748 h730 (fun q => by cases q))).trans h748
  have h776 : f756 q523 = some (eI Γ 64 (fun _ => 0)) := by rw [ef756]; exact (hm_un (hm_ne h749 h730 (fun q => by cases q))).trans h749
  have h777 : f756 q571 = some (eI Γ 64 (fun _ => 0)) := by rw [ef756]; exact (hm_un (hm_ne h750 h730 (fun q => by cases q))).trans h750
  have h778 : f756 q621 = some (eI Γ 64 (fun _ => 0)) := by rw [ef756]; exact (hm_un (hm_ne h751 h730 (fun q => by cases q))).trans h751
  have h779 : f756 q673 = some (eJ Γ 6 (fun _ => 0)) := by rw [ef756]; exact (hm_un (hm_ne h752 h730 (fun q => by cases q))).trans h752
  have h780 : f756 q727 = some (eI Γ 6 (fun _ => 0)) := by rw [ef756]; exact (hm_un (hm_ne h729 h730 (fun q => by cases q))).trans h729
  have al781 : alv [q727, q673, q621, q571, q523, q477, q433, q391, q351, q313, q277, q243, q211, q181, q153, q127, q103, q81, q61, q43, q27, q13, q1] f756 := by rw [ef756]; exact al753.up
  have hk782 : hm_k (fun q => q = m0) f f756 := by rw [ef756]; exact hk755.up rfl
  refine lv_aload_n hx hb dX8_init_187 rfl (lv_at hl 0 rfl) ?_
  refine lv_bipush (v := 6) hx hb dX8_init_188 (by decide) ?_
  refine hm_newI hx hb hts hK hO hS hH (N' := 6) (by decide) (by decide) (by decide) (Nat.le_of_ble_eq_true rfl) (Nat.le_of_ble_eq_true rfl) dX8_init_190 (fun q783 H hH hn_q783 hb_q783 hS => ?_)
  obtain ⟨f784, ef784⟩ : ∃ zz_, zz_ = hm_up f756 q783 (eI Γ 6 (fun _ => 0)) := ⟨_, rfl⟩
  have hH : hm_H Γ f784 H := by rw [ef784]; exact hH
  have h785 : f784 q783 = some (eI Γ 6 (fun _ => 0)) := by rw [ef784]; exact hm_us
  have h786 : f784 m0 = some (eR 8 [.ref q1, .ref q13, .ref q27, .ref q43, .ref q61, .ref q81, .ref q103, .ref q127, .ref q153, .ref q181, .ref q211, .ref q243, .ref q277, .ref q313, .ref q351, .ref q391, .ref q433, .ref q477, .ref q523, .ref q571, .ref q621, .ref q673, .ref q727, .null, .null, .null, .null, .null, .int 0, .int 0, .int 0, .int 0, .int 0, .int 0, .int 0, .int 0, .int 0, .int 0, .int 0, .int 0, .int 0, .int 0, .int 0, .int 0, .long 0, .long 0]) := by rw [ef784]; exact (hm_un (hm_nn h757 hn_q783)).trans h757
  have h787 : f784 q1 = some (eI Γ 4 (fun _ => 0)) := by rw [ef784]; exact (hm_un (hm_nn h758 hn_q783)).trans h758
  have h788 : f784 q13 = some (eJ Γ 8 (fun _ => 0)) := by rw [ef784]; exact (hm_un (hm_nn h759 hn_q783)).trans h759
  have h789 : f784 q27 = some (eI Γ 8 (fun _ => 0)) := by rw [ef784]; exact (hm_un (hm_nn h760 hn_q783)).trans h760
  have h790 : f784 q43 = some (eI Γ 8 (fun _ => 0)) := by rw [ef784]; exact (hm_un (hm_nn h761 hn_q783)).trans h761
  have h791 : f784 q61 = some (eI Γ 8 (fun _ => 0)) := by rw [ef784]; exact (hm_un (hm_nn h762 hn_q783)).trans h762
  have h792 : f784 q81 = some (eI Γ 8 (fun _ => 0)) := by rw [ef784]; exact (hm_un (hm_nn h763 hn_q783)).trans h763
  have h793 : f784 q103 = some (eI Γ 8 (fun _ => 0)) := by rw [ef784]; exact (hm_un (hm_nn h764 hn_q783)).trans h764
  have h794 : f784 q127 = some (eI Γ 8 (fun _ => 0)) := by rw [ef784]; exact (hm_un (hm_nn h765 hn_q783)).trans h765
  have h795 : f784 q153 = some (eI Γ 8 (fun _ => 0)) := by rw [ef784]; exact (hm_un (hm_nn h766 hn_q783)).trans h766
  have h796 : f784 q181 = some (eZ Γ 8 (fun _ => 0)) := by rw [ef784]; exact (hm_un (hm_nn h767 hn_q783)).trans h767
  have h797 : f784 q211 = some (eJ Γ 60 (fun _ => 0)) := by rw [ef784]; exact (hm_un (hm_nn h768 hn_q783)).trans h768
  have h798 : f784 q243 = some (eI Γ 60 (fun _ => 0)) := by rw [ef784]; exact (hm_un (hm_nn h769 hn_q783)).trans h769
  have h799 : f784 q277 = some (eI Γ 60 (fun _ => 0)) := by rw [ef784]; exact (hm_un (hm_nn h770 hn_q783)).trans h770
  have h800 : f784 q313 = some (eI Γ 60 (fun _ => 0)) := by rw [ef784]; exact (hm_un (hm_nn h771 hn_q783)).trans h771
  have h801 : f784 q351 = some (eJ Γ 64 (fun _ => 0)) := by rw [ef784]; exact (hm_un (hm_nn h772 hn_q783)).trans h772
  have h802 : f784 q391 = some (eI Γ 64 (fun _ => 0)) := by rw [ef784]; exact (hm_un (hm_nn h773 hn_q783)).trans h773
  have h803 : f784 q433 = some (eI Γ 64 (fun _ => 0)) := by rw [ef784]; exact (hm_un (hm_nn h774 hn_q783)).trans h774
  have h804 : f784 q477 = some (eI Γ 64 (fun _ => 0)) := by rw [ef784]; exact (hm_un (hm_nn h775 hn_q783)).trans h775
  have h805 : f784 q523 = some (eI Γ 64 (fun _ => 0)) := by rw [ef784]; exact (hm_un (hm_nn h776 hn_q783)).trans h776
  have h806 : f784 q571 = some (eI Γ 64 (fun _ => 0)) := by rw [ef784]; exact (hm_un (hm_nn h777 hn_q783)).trans h777
  have h807 : f784 q621 = some (eI Γ 64 (fun _ => 0)) := by rw [ef784]; exact (hm_un (hm_nn h778 hn_q783)).trans h778
  have h808 : f784 q673 = some (eJ Γ 6 (fun _ => 0)) := by rw [ef784]; exact (hm_un (hm_nn h779 hn_q783)).trans h779
  have h809 : f784 q727 = some (eI Γ 6 (fun _ => 0)) := by rw [ef784]; exact (hm_un (hm_nn h780 hn_q783)).trans h780
  have nd811 : List.Nodup [q783, q727, q673, q621, q571, q523, q477, q433, q391, q351, q313, q277, q243, q211, q181, q153, q127, q103, q81, q61, q43, q27, q13, q1] := List.nodup_cons.mpr ⟨al781.not hn_q783, nd754⟩
  have al810 : alv [q783, q727, q673, q621, q571, q523, q477, q433, q391, q351, q313, q277, q243, q211, q181, q153, q127, q103, q81, q61, q43, q27, q13, q1] f784 := by rw [ef784]; exact al781.new
  have hk812 : hm_k (fun q => q = m0) f f784 := by rw [ef784]; exact hk782.upG hn_q783
  refine pF_X8_81 hx hb hts hown hin hK hO hS hH h786 rfl (Nat.le_of_ble_eq_true rfl) rfl dX8_init_192 (fun H locs hH hS => ?_)
  obtain ⟨f813, ef813⟩ : ∃ zz_, zz_ = hm_up f784 m0 (eR 8 [.ref q1, .ref q13, .ref q27, .ref q43, .ref q61, .ref q81, .ref q103, .ref q127, .ref q153, .ref q181, .ref q211, .ref q243, .ref q277, .ref q313, .ref q351, .ref q391, .ref q433, .ref q477, .ref q523, .ref q571, .ref q621, .ref q673, .ref q727, .ref q783, .null, .null, .null, .null, .int 0, .int 0, .int 0, .int 0, .int 0, .int 0, .int 0, .int 0, .int 0, .int 0, .int 0, .int 0, .int 0, .int 0, .int 0, .int 0, .long 0, .long 0]) := ⟨_, rfl⟩
  have hH : hm_H Γ f813 H := by rw [ef813]; exact hH
  have h814 : f813 m0 = some (eR 8 [.ref q1, .ref q13, .ref q27, .ref q43, .ref q61, .ref q81, .ref q103, .ref q127, .ref q153, .ref q181, .ref q211, .ref q243, .ref q277, .ref q313, .ref q351, .ref q391, .ref q433, .ref q477, .ref q523, .ref q571, .ref q621, .ref q673, .ref q727, .ref q783, .null, .null, .null, .null, .int 0, .int 0, .int 0, .int 0, .int 0, .int 0, .int 0, .int 0, .int 0, .int 0, .int 0, .int 0, .int 0, .int 0, .int 0, .int 0, .long 0, .long 0]) := by rw [ef813]; exact hm_us
  have h815 : f813 q1 = some (eI Γ 4 (fun _ => 0)) := by rw [ef813]; exact (hm_un (hm_ne h787 h786 (fun q => by cases q))).trans h787
  have h816 : f813 q13 = some (eJ Γ 8 (fun _ => 0)) := by rw [ef813]; exact (hm_un (hm_ne h788 h786 (fun q => by cases q))).trans h788
  have h817 : f813 q27 = some (eI Γ 8 (fun _ => 0)) := by rw [ef813]; exact (hm_un (hm_ne h789 h786 (fun q => by cases q))).trans h789
  have h818 : f813 q43 = some (eI Γ 8 (fun _ => 0)) := by rw [ef813]; exact (hm_un (hm_ne h790 h786 (fun q => by cases q))).trans h790
  have h819 : f813 q61 = some (eI Γ 8 (fun _ => 0)) := by rw [ef813]; exact (hm_un (hm_ne h791 h786 (fun q => by cases q))).trans h791
  have h820 : f813 q81 = some (eI Γ 8 (fun _ => 0)) := by rw [ef813]; exact (hm_un (hm_ne h792 h786 (fun q => by cases q))).trans h792
  have h821 : f813 q103 = some (eI Γ 8 (fun _ => 0)) := by rw [ef813]; exact (hm_un (hm_ne h793 h786 (fun q => by cases q))).trans h793
  have h822 : f813 q127 = some (eI Γ 8 (fun _ => 0)) := by rw [ef813]; exact (hm_un (hm_ne h794 h786 (fun q => by cases q))).trans h794
  have h823 : f813 q153 = some (eI Γ 8 (fun _ => 0)) := by rw [ef813]; exact (hm_un (hm_ne h795 h786 (fun q => by cases q))).trans h795
  have h824 : f813 q181 = some (eZ Γ 8 (fun _ => 0)) := by rw [ef813]; exact (hm_un (hm_ne h796 h786 (fun q => by cases q))).trans h796
  have h825 : f813 q211 = some (eJ Γ 60 (fun _ => 0)) := by rw [ef813]; exact (hm_un (hm_ne h797 h786 (fun q => by cases q))).trans h797
  have h826 : f813 q243 = some (eI Γ 60 (fun _ => 0)) := by rw [ef813]; exact (hm_un (hm_ne h798 h786 (fun q => by cases q))).trans h798
  have h827 : f813 q277 = some (eI Γ 60 (fun _ => 0)) := by rw [ef813]; exact (hm_un (hm_ne h799 h786 (fun q => by cases q))).trans h799
  have h828 : f813 q313 = some (eI Γ 60 (fun _ => 0)) := by rw [ef813]; exact (hm_un (hm_ne h800 h786 (fun q => by cases q))).trans h800
  have h829 : f813 q351 = some (eJ Γ 64 (fun _ => 0)) := by rw [ef813]; exact (hm_un (hm_ne h801 h786 (fun q => by cases q))).trans h801
  have h830 : f813 q391 = some (eI Γ 64 (fun _ => 0)) := by rw [ef813]; exact (hm_un (hm_ne h802 h786 (fun q => by cases q))).trans h802
  have h831 : f813 q433 = some (eI Γ 64 (fun _ => 0)) := by rw [ef813]; exact (hm_un (hm_ne h803 h786 (fun q => by cases q))).trans h803
  have h832 : f813 q477 = some (eI Γ 64 (fun _ => 0)) := by rw [ef813]; exact (hm_un (hm_ne h804 h786 (fun q => by cases q))).trans h804
  have h833 : f813 q523 = some (eI Γ 64 (fun _ => 0)) := by rw [ef813]; exact (hm_un (hm_ne h805 h786 (fun q => by cases q))).trans h805
  have h834 : f813 q571 = some (eI Γ 64 (fun _ => 0)) := by rw [ef813]; exact (hm_un (hm_ne h806 h786 (fun q => by cases q))).trans h806
  have h835 : f813 q621 = some (eI Γ 64 (fun _ => 0)) := by rw [ef813]; exact (hm_un (hm_ne h807 h786 (fun q => by cases q))).trans h807
  have h836 : f813 q673 = some (eJ Γ 6 (fun _ => 0)) := by rw [ef813]; exact (hm_un (hm_ne h808 h786 (fun q => by cases q))).trans h808
  have h837 : f813 q727 = some (eI Γ 6 (fun _ => 0)) := by rw [ef813]; exact (hm_un (hm_ne h809 h786 (fun q => by cases q))).trans h809
  have h838 : f813 q783 = some (eI Γ 6 (fun _ => 0)) := by rw [ef813]; exact (hm_un (hm_ne h785 h786 (fun q => by cases q))).trans h785
  have al839 : alv [q783, q727, q673, q621, q571, q523, q477, q433, q391, q351, q313, q277, q243, q211, q181, q153, q127, q103, q81, q61, q43, q27, q13, q1] f813 := by rw [ef813]; exact al810.up
  have hk840 : hm_k (fun q => q = m0) f f813 := by rw [ef813]; exact hk812.up rfl
  refine lv_aload_n hx hb dX8_init_195 rfl (lv_at hl 0 rfl) ?_
  refine lv_bipush (v := 6) hx hb dX8_init_196 (by decide) ?_
  refine hm_newI hx hb hts hK hO hS hH (N' := 6) (by decide) (by decide) (by decide) (Nat.le_of_ble_eq_true rfl) (Nat.le_of_ble_eq_true rfl) dX8_init_198 (fun q841 H hH hn_q841 hb_q841 hS => ?_)
  obtain ⟨f842, ef842⟩ : ∃ zz_, zz_ = hm_up f813 q841 (eI Γ 6 (fun _ => 0)) := ⟨_, rfl⟩
  have hH : hm_H Γ f842 H := by rw [ef842]; exact hH
  have h843 : f842 q841 = some (eI Γ 6 (fun _ => 0)) := by rw [ef842]; exact hm_us
  have h844 : f842 m0 = some (eR 8 [.ref q1, .ref q13, .ref q27, .ref q43, .ref q61, .ref q81, .ref q103, .ref q127, .ref q153, .ref q181, .ref q211, .ref q243, .ref q277, .ref q313, .ref q351, .ref q391, .ref q433, .ref q477, .ref q523, .ref q571, .ref q621, .ref q673, .ref q727, .ref q783, .null, .null, .null, .null, .int 0, .int 0, .int 0, .int 0, .int 0, .int 0, .int 0, .int 0, .int 0, .int 0, .int 0, .int 0, .int 0, .int 0, .int 0, .int 0, .long 0, .long 0]) := by rw [ef842]; exact (hm_un (hm_nn h814 hn_q841)).trans h814
  have h845 : f842 q1 = some (eI Γ 4 (fun _ => 0)) := by rw [ef842]; exact (hm_un (hm_nn h815 hn_q841)).trans h815
  have h846 : f842 q13 = some (eJ Γ 8 (fun _ => 0)) := by rw [ef842]; exact (hm_un (hm_nn h816 hn_q841)).trans h816
  have h847 : f842 q27 = some (eI Γ 8 (fun _ => 0)) := by rw [ef842]; exact (hm_un (hm_nn h817 hn_q841)).trans h817
  have h848 : f842 q43 = some (eI Γ 8 (fun _ => 0)) := by rw [ef842]; exact (hm_un (hm_nn h818 hn_q841)).trans h818
  have h849 : f842 q61 = some (eI Γ 8 (fun _ => 0)) := by rw [ef842]; exact (hm_un (hm_nn h819 hn_q841)).trans h819
  have h850 : f842 q81 = some (eI Γ 8 (fun _ => 0)) := by rw [ef842]; exact (hm_un (hm_nn h820 hn_q841)).trans h820
  have h851 : f842 q103 = some (eI Γ 8 (fun _ => 0)) := by rw [ef842]; exact (hm_un (hm_nn h821 hn_q841)).trans h821
  have h852 : f842 q127 = some (eI Γ 8 (fun _ => 0)) := by rw [ef842]; exact (hm_un (hm_nn h822 hn_q841)).trans h822
  have h853 : f842 q153 = some (eI Γ 8 (fun _ => 0)) := by rw [ef842]; exact (hm_un (hm_nn h823 hn_q841)).trans h823
  have h854 : f842 q181 = some (eZ Γ 8 (fun _ => 0)) := by rw [ef842]; exact (hm_un (hm_nn h824 hn_q841)).trans h824
  have h855 : f842 q211 = some (eJ Γ 60 (fun _ => 0)) := by rw [ef842]; exact (hm_un (hm_nn h825 hn_q841)).trans h825
  have h856 : f842 q243 = some (eI Γ 60 (fun _ => 0)) := by rw [ef842]; exact (hm_un (hm_nn h826 hn_q841)).trans h826
  have h857 : f842 q277 = some (eI Γ 60 (fun _ => 0)) := by rw [ef842]; exact (hm_un (hm_nn h827 hn_q841)).trans h827
  have h858 : f842 q313 = some (eI Γ 60 (fun _ => 0)) := by rw [ef842]; exact (hm_un (hm_nn h828 hn_q841)).trans h828
  have h859 : f842 q351 = some (eJ Γ 64 (fun _ => 0)) := by rw [ef842]; exact (hm_un (hm_nn h829 hn_q841)).trans h829
  have h860 : f842 q391 = some (eI Γ 64 (fun _ => 0)) := by rw [ef842]; exact (hm_un (hm_nn h830 hn_q841)).trans h830
  have h861 : f842 q433 = some (eI Γ 64 (fun _ => 0)) := by rw [ef842]; exact (hm_un (hm_nn h831 hn_q841)).trans h831
  have h862 : f842 q477 = some (eI Γ 64 (fun _ => 0)) := by rw [ef842]; exact (hm_un (hm_nn h832 hn_q841)).trans h832
  have h863 : f842 q523 = some (eI Γ 64 (fun _ => 0)) := by rw [ef842]; exact (hm_un (hm_nn h833 hn_q841)).trans h833
  have h864 : f842 q571 = some (eI Γ 64 (fun _ => 0)) := by rw [ef842]; exact (hm_un (hm_nn h834 hn_q841)).trans h834
  have h865 : f842 q621 = some (eI Γ 64 (fun _ => 0)) := by rw [ef842]; exact (hm_un (hm_nn h835 hn_q841)).trans h835
  have h866 : f842 q673 = some (eJ Γ 6 (fun _ => 0)) := by rw [ef842]; exact (hm_un (hm_nn h836 hn_q841)).trans h836
  have h867 : f842 q727 = some (eI Γ 6 (fun _ => 0)) := by rw [ef842]; exact (hm_un (hm_nn h837 hn_q841)).trans h837
  have h868 : f842 q783 = some (eI Γ 6 (fun _ => 0)) := by rw [ef842]; exact (hm_un (hm_nn h838 hn_q841)).trans h838
  have nd870 : List.Nodup [q841, q783, q727, q673, q621, q571, q523, q477, q433, q391, q351, q313, q277, q243, q211, q181, q153, q127, q103, q81, q61, q43, q27, q13, q1] := List.nodup_cons.mpr ⟨al839.not hn_q841, nd811⟩
  have al869 : alv [q841, q783, q727, q673, q621, q571, q523, q477, q433, q391, q351, q313, q277, q243, q211, q181, q153, q127, q103, q81, q61, q43, q27, q13, q1] f842 := by rw [ef842]; exact al839.new
  have hk871 : hm_k (fun q => q = m0) f f842 := by rw [ef842]; exact hk840.upG hn_q841
  refine pF_X8_84 hx hb hts hown hin hK hO hS hH h844 rfl (Nat.le_of_ble_eq_true rfl) rfl dX8_init_200 (fun H locs hH hS => ?_)
  obtain ⟨f872, ef872⟩ : ∃ zz_, zz_ = hm_up f842 m0 (eR 8 [.ref q1, .ref q13, .ref q27, .ref q43, .ref q61, .ref q81, .ref q103, .ref q127, .ref q153, .ref q181, .ref q211, .ref q243, .ref q277, .ref q313, .ref q351, .ref q391, .ref q433, .ref q477, .ref q523, .ref q571, .ref q621, .ref q673, .ref q727, .ref q783, .ref q841, .null, .null, .null, .int 0, .int 0, .int 0, .int 0, .int 0, .int 0, .int 0, .int 0, .int 0, .int 0, .int 0, .int 0, .int 0, .int 0, .int 0, .int 0, .long 0, .long 0]) := ⟨_, rfl⟩
  have hH : hm_H Γ f872 H := by rw [ef872]; exact hH
  have h873 : f872 m0 = some (eR 8 [.ref q1, .ref q13, .ref q27, .ref q43, .ref q61, .ref q81, .ref q103, .ref q127, .ref q153, .ref q181, .ref q211, .ref q243, .ref q277, .ref q313, .ref q351, .ref q391, .ref q433, .ref q477, .ref q523, .ref q571, .ref q621, .ref q673, .ref q727, .ref q783, .ref q841, .null, .null, .null, .int 0, .int 0, .int 0, .int 0, .int 0, .int 0, .int 0, .int 0, .int 0, .int 0, .int 0, .int 0, .int 0, .int 0, .int 0, .int 0, .long 0, .long 0]) := by rw [ef872]; exact hm_us
  have h874 : f872 q1 = some (eI Γ 4 (fun _ => 0)) := by rw [ef872]; exact (hm_un (hm_ne h845 h844 (fun q => by cases q))).trans h845
  have h875 : f872 q13 = some (eJ Γ 8 (fun _ => 0)) := by rw [ef872]; exact (hm_un (hm_ne h846 h844 (fun q => by cases q))).trans h846
  have h876 : f872 q27 = some (eI Γ 8 (fun _ => 0)) := by rw [ef872]; exact (hm_un (hm_ne h847 h844 (fun q => by cases q))).trans h847
  have h877 : f872 q43 = some (eI Γ 8 (fun _ => 0)) := by rw [ef872]; exact (hm_un (hm_ne h848 h844 (fun q => by cases q))).trans h848
  have h878 : f872 q61 = some (eI Γ 8 (fun _ => 0)) := by rw [ef872]; exact (hm_un (hm_ne h849 h844 (fun q => by cases q))).trans h849
  have h879 : f872 q81 = some (eI Γ 8 (fun _ => 0)) := by rw [ef872]; exact (hm_un (hm_ne h850 h844 (fun q => by cases q))).trans h850
  have h880 : f872 q103 = some (eI Γ 8 (fun _ => 0)) := by rw [ef872]; exact (hm_un (hm_ne h851 h844 (fun q => by cases q))).trans h851
  have h881 : f872 q127 = some (eI Γ 8 (fun _ => 0)) := by rw [ef872]; exact (hm_un (hm_ne h852 h844 (fun q => by cases q))).trans h852
  have h882 : f872 q153 = some (eI Γ 8 (fun _ => 0)) := by rw [ef872]; exact (hm_un (hm_ne h853 h844 (fun q => by cases q))).trans h853
  have h883 : f872 q181 = some (eZ Γ 8 (fun _ => 0)) := by rw [ef872]; exact (hm_un (hm_ne h854 h844 (fun q => by cases q))).trans h854
  have h884 : f872 q211 = some (eJ Γ 60 (fun _ => 0)) := by rw [ef872]; exact (hm_un (hm_ne h855 h844 (fun q => by cases q))).trans h855
  have h885 : f872 q243 = some (eI Γ 60 (fun _ => 0)) := by rw [ef872]; exact (hm_un (hm_ne h856 h844 (fun q => by cases q))).trans h856
  have h886 : f872 q277 = some (eI Γ 60 (fun _ => 0)) := by rw [ef872]; exact (hm_un (hm_ne h857 h844 (fun q => by cases q))).trans h857
  have h887 : f872 q313 = some (eI Γ 60 (fun _ => 0)) := by rw [ef872]; exact (hm_un (hm_ne h858 h844 (fun q => by cases q))).trans h858
  have h888 : f872 q351 = some (eJ Γ 64 (fun _ => 0)) := by rw [ef872]; exact (hm_un (hm_ne h859 h844 (fun q => by cases q))).trans h859
  have h889 : f872 q391 = some (eI Γ 64 (fun _ => 0)) := by rw [ef872]; exact (hm_un (hm_ne h860 h844 (fun q => by cases q))).trans h860
  have h890 : f872 q433 = some (eI Γ 64 (fun _ => 0)) := by rw [ef872]; exact (hm_un (hm_ne h861 h844 (fun q => by cases q))).trans h861
  have h891 : f872 q477 = some (eI Γ 64 (fun _ => 0)) := by rw [ef872]; exact (hm_un (hm_ne h862 h844 (fun q => by cases q))).trans h862
  have h892 : f872 q523 = some (eI Γ 64 (fun _ => 0)) := by rw [ef872]; exact (hm_un (hm_ne h863 h844 (fun q => by cases q))).trans h863
  have h893 : f872 q571 = some (eI Γ 64 (fun _ => 0)) := by rw [ef872]; exact (hm_un (hm_ne h864 h844 (fun q => by cases q))).trans h864
  have h894 : f872 q621 = some (eI Γ 64 (fun _ => 0)) := by rw [ef872]; exact (hm_un (hm_ne h865 h844 (fun q => by cases q))).trans h865
  have h895 : f872 q673 = some (eJ Γ 6 (fun _ => 0)) := by rw [ef872]; exact (hm_un (hm_ne h866 h844 (fun q => by cases q))).trans h866
  have h896 : f872 q727 = some (eI Γ 6 (fun _ => 0)) := by rw [ef872]; exact (hm_un (hm_ne h867 h844 (fun q => by cases q))).trans h867
  have h897 : f872 q783 = some (eI Γ 6 (fun _ => 0)) := by rw [ef872]; exact (hm_un (hm_ne h868 h844 (fun q => by cases q))).trans h868
  have h898 : f872 q841 = some (eI Γ 6 (fun _ => 0)) := by rw [ef872]; exact (hm_un (hm_ne h843 h844 (fun q => by cases q))).trans h843
  have al899 : alv [q841, q783, q727, q673, q621, q571, q523, q477, q433, q391, q351, q313, q277, q243, q211, q181, q153, q127, q103, q81, q61, q43, q27, q13, q1] f872 := by rw [ef872]; exact al869.up
  have hk900 : hm_k (fun q => q = m0) f f872 := by rw [ef872]; exact hk871.up rfl
  refine lv_aload_n hx hb dX8_init_203 rfl (lv_at hl 0 rfl) ?_
  refine lv_bipush (v := 6) hx hb dX8_init_204 (by decide) ?_
  refine hm_newI hx hb hts hK hO hS hH (N' := 6) (by decide) (by decide) (by decide) (Nat.le_of_ble_eq_true rfl) (Nat.le_of_ble_eq_true rfl) dX8_init_206 (fun q901 H hH hn_q901 hb_q901 hS => ?_)
  obtain ⟨f902, ef902⟩ : ∃ zz_, zz_ = hm_up f872 q901 (eI Γ 6 (fun _ => 0)) := ⟨_, rfl⟩
  have hH : hm_H Γ f902 H := by rw [ef902]; exact hH
  have h903 : f902 q901 = some (eI Γ 6 (fun _ => 0)) := by rw [ef902]; exact hm_us
  have h904 : f902 m0 = some (eR 8 [.ref q1, .ref q13, .ref q27, .ref q43, .ref q61, .ref q81, .ref q103, .ref q127, .ref q153, .ref q181, .ref q211, .ref q243, .ref q277, .ref q313, .ref q351, .ref q391, .ref q433, .ref q477, .ref q523, .ref q571, .ref q621, .ref q673, .ref q727, .ref q783, .ref q841, .null, .null, .null, .int 0, .int 0, .int 0, .int 0, .int 0, .int 0, .int 0, .int 0, .int 0, .int 0, .int 0, .int 0, .int 0, .int 0, .int 0, .int 0, .long 0, .long 0]) := by rw [ef902]; exact (hm_un (hm_nn h873 hn_q901)).trans h873
  have h905 : f902 q1 = some (eI Γ 4 (fun _ => 0)) := by rw [ef902]; exact (hm_un (hm_nn h874 hn_q901)).trans h874
  have h906 : f902 q13 = some (eJ Γ 8 (fun _ => 0)) := by rw [ef902]; exact (hm_un (hm_nn h875 hn_q901)).trans h875
  have h907 : f902 q27 = some (eI Γ 8 (fun _ => 0)) := by rw [ef902]; exact (hm_un (hm_nn h876 hn_q901)).trans h876
  have h908 : f902 q43 = some (eI Γ 8 (fun _ => 0)) := by rw [ef902]; exact (hm_un (hm_nn h877 hn_q901)).trans h877
  have h909 : f902 q61 = some (eI Γ 8 (fun _ => 0)) := by rw [ef902]; exact (hm_un (hm_nn h878 hn_q901)).trans h878
  have h910 : f902 q81 = some (eI Γ 8 (fun _ => 0)) := by rw [ef902]; exact (hm_un (hm_nn h879 hn_q901)).trans h879
  have h911 : f902 q103 = some (eI Γ 8 (fun _ => 0)) := by rw [ef902]; exact (hm_un (hm_nn h880 hn_q901)).trans h880
  have h912 : f902 q127 = some (eI Γ 8 (fun _ => 0)) := by rw [ef902]; exact (hm_un (hm_nn h881 hn_q901)).trans h881
  have h913 : f902 q153 = some (eI Γ 8 (fun _ => 0)) := by rw [ef902]; exact (hm_un (hm_nn h882 hn_q901)).trans h882
  have h914 : f902 q181 = some (eZ Γ 8 (fun _ => 0)) := by rw [ef902]; exact (hm_un (hm_nn h883 hn_q901)).trans h883
  have h915 : f902 q211 = some (eJ Γ 60 (fun _ => 0)) := by rw [ef902]; exact (hm_un (hm_nn h884 hn_q901)).trans h884
  have h916 : f902 q243 = some (eI Γ 60 (fun _ => 0)) := by rw [ef902]; exact (hm_un (hm_nn h885 hn_q901)).trans h885
  have h917 : f902 q277 = some (eI Γ 60 (fun _ => 0)) := by rw [ef902]; exact (hm_un (hm_nn h886 hn_q901)).trans h886
  have h918 : f902 q313 = some (eI Γ 60 (fun _ => 0)) := by rw [ef902]; exact (hm_un (hm_nn h887 hn_q901)).trans h887
  have h919 : f902 q351 = some (eJ Γ 64 (fun _ => 0)) := by rw [ef902]; exact (hm_un (hm_nn h888 hn_q901)).trans h888
  have h920 : f902 q391 = some (eI Γ 64 (fun _ => 0)) := by rw [ef902]; exact (hm_un (hm_nn h889 hn_q901)).trans h889
  have h921 : f902 q433 = some (eI Γ 64 (fun _ => 0)) := by rw [ef902]; exact (hm_un (hm_nn h890 hn_q901)).trans h890
  have h922 : f902 q477 = some (eI Γ 64 (fun _ => 0)) := by rw [ef902]; exact (hm_un (hm_nn h891 hn_q901)).trans h891
  have h923 : f902 q523 = some (eI Γ 64 (fun _ => 0)) := by rw [ef902]; exact (hm_un (hm_nn h892 hn_q901)).trans h892
  have h924 : f902 q571 = some (eI Γ 64 (fun _ => 0)) := by rw [ef902]; exact (hm_un (hm_nn h893 hn_q901)).trans h893
  have h925 : f902 q621 = some (eI Γ 64 (fun _ => 0)) := by rw [ef902]; exact (hm_un (hm_nn h894 hn_q901)).trans h894
  have h926 : f902 q673 = some (eJ Γ 6 (fun _ => 0)) := by rw [ef902]; exact (hm_un (hm_nn h895 hn_q901)).trans h895
  have h927 : f902 q727 = some (eI Γ 6 (fun _ => 0)) := by rw [ef902]; exact (hm_un (hm_nn h896 hn_q901)).trans h896
  have h928 : f902 q783 = some (eI Γ 6 (fun _ => 0)) := by rw [ef902]; exact (hm_un (hm_nn h897 hn_q901)).trans h897
  have h929 : f902 q841 = some (eI Γ 6 (fun _ => 0)) := by rw [ef902]; exact (hm_un (hm_nn h898 hn_q901)).trans h898
  have nd931 : List.Nodup [q901, q841, q783, q727, q673, q621, q571, q523, q477, q433, q391, q351, q313, q277, q243, q211, q181, q153, q127, q103, q81, q61, q43, q27, q13, q1] := List.nodup_cons.mpr ⟨al899.not hn_q901, nd870⟩
  have al930 : alv [q901, q841, q783, q727, q673, q621, q571, q523, q477, q433, q391, q351, q313, q277, q243, q211, q181, q153, q127, q103, q81, q61, q43, q27, q13, q1] f902 := by rw [ef902]; exact al899.new
  have hk932 : hm_k (fun q => q = m0) f f902 := by rw [ef902]; exact hk900.upG hn_q901
  refine pF_X8_87 hx hb hts hown hin hK hO hS hH h904 rfl (Nat.le_of_ble_eq_true rfl) rfl dX8_init_208 (fun H locs hH hS => ?_)
  obtain ⟨f933, ef933⟩ : ∃ zz_, zz_ = hm_up f902 m0 (eR 8 [.ref q1, .ref q13, .ref q27, .ref q43, .ref q61, .ref q81, .ref q103, .ref q127, .ref q153, .ref q181, .ref q211, .ref q243, .ref q277, .ref q313, .ref q351, .ref q391, .ref q433, .ref q477, .ref q523, .ref q571, .ref q621, .ref q673, .ref q727, .ref q783, .ref q841, .ref q901, .null, .null, .int 0, .int 0, .int 0, .int 0, .int 0, .int 0, .int 0, .int 0, .int 0, .int 0, .int 0, .int 0, .int 0, .int 0, .int 0, .int 0, .long 0, .long 0]) := ⟨_, rfl⟩
  have hH : hm_H Γ f933 H := by rw [ef933]; exact hH
  have h934 : f933 m0 = some (eR 8 [.ref q1, .ref q13, .ref q27, .ref q43, .ref q61, .ref q81, .ref q103, .ref q127, .ref q153, .ref q181, .ref q211, .ref q243, .ref q277, .ref q313, .ref q351, .ref q391, .ref q433, .ref q477, .ref q523, .ref q571, .ref q621, .ref q673, .ref q727, .ref q783, .ref q841, .ref q901, .null, .null, .int 0, .int 0, .int 0, .int 0, .int 0, .int 0, .int 0, .int 0, .int 0, .int 0, .int 0, .int 0, .int 0, .int 0, .int 0, .int 0, .long 0, .long 0]) := by rw [ef933]; exact hm_us
  have h935 : f933 q1 = some (eI Γ 4 (fun _ => 0)) := by rw [ef933]; exact (hm_un (hm_ne h905 h904 (fun q => by cases q))).trans h905
  have h936 : f933 q13 = some (eJ Γ 8 (fun _ => 0)) := by rw [ef933]; exact (hm_un (hm_ne h906 h904 (fun q => by cases q))).trans h906
  have h937 : f933 q27 = some (eI Γ 8 (fun _ => 0)) := by rw [ef933]; exact (hm_un (hm_ne h907 h904 (fun q => by cases q))).trans h907
  have h938 : f933 q43 = some (eI Γ 8 (fun _ => 0)) := by rw [ef933]; exact (hm_un (hm_ne h908 h904 (fun q => by cases q))).trans h908
  have h939 : f933 q61 = some (eI Γ 8 (fun _ => 0)) := by rw [ef933]; exact (hm_un (hm_ne h909 h904 (fun q => by cases q))).trans h909
  have h940 : f933 q81 = some (eI Γ 8 (fun _ => 0)) := by rw [ef933]; exact (hm_un (hm_ne h910 h904 (fun q => by cases q))).trans h910
  have h941 : f933 q103 = some (eI Γ 8 (fun _ => 0)) := by rw [ef933]; exact (hm_un (hm_ne h911 h904 (fun q => by cases q))).trans h911
  have h942 : f933 q127 = some (eI Γ 8 (fun _ => 0)) := by rw [ef933]; exact (hm_un (hm_ne h912 h904 (fun q => by cases q))).trans h912
  have h943 : f933 q153 = some (eI Γ 8 (fun _ => 0)) := by rw [ef933]; exact (hm_un (hm_ne h913 h904 (fun q => by cases q))).trans h913
  have h944 : f933 q181 = some (eZ Γ 8 (fun _ => 0)) := by rw [ef933]; exact (hm_un (hm_ne h914 h904 (fun q => by cases q))).trans h914
  have h945 : f933 q211 = some (eJ Γ 60 (fun _ => 0)) := by rw [ef933]; exact (hm_un (hm_ne h915 h904 (fun q => by cases q))).trans h915
  have h946 : f933 q243 = some (eI Γ 60 (fun _ => 0)) := by rw [ef933]; exact (hm_un (hm_ne h916 h904 (fun q => by cases q))).trans h916
  have h947 : f933 q277 = some (eI Γ 60 (fun _ => 0)) := by rw [ef933]; exact (hm_un (hm_ne h917 h904 (fun q => by cases q))).trans h917
  have h948 : f933 q313 = some (eI Γ 60 (fun _ => 0)) := by rw [ef933]; exact (hm_un (hm_ne h918 h904 (fun q => by cases q))).trans h918
  have h949 : f933 q351 = some (eJ Γ 64 (fun _ => 0)) := by rw [ef933]; exact (hm_un (hm_ne h919 h904 (fun q => by cases q))).trans h919
  have h950 : f933 q391 = some (eI Γ 64 (fun _ => 0)) := by rw [ef933]; exact (hm_un (hm_ne h920 h904 (fun q => by cases q))).trans h920
  have h951 : f933 q433 = some (eI Γ 64 (fun _ => 0)) := by rw [ef933]; exact (hm_un (hm_ne h921 h904 (fun q => by cases q))).trans h921
  have h952 : f933 q477 = some (eI Γ 64 (fun _ => 0)) := by rw [ef933]; exact (hm_un (hm_ne h922 h904 (fun q => by cases q))).trans h922
  have h953 : f933 q523 = some (eI Γ 64 (fun _ => 0)) := by rw [ef933]; exact (hm_un (hm_ne h923 h904 (fun q => by cases q))).trans h923
  have h954 : f933 q571 = some (eI Γ 64 (fun _ => 0)) := by rw [ef933]; exact (hm_un (hm_ne h924 h904 (fun q => by cases q))).trans h924
  have h955 : f933 q621 = some (eI Γ 64 (fun _ => 0)) := by rw [ef933]; exact (hm_un (hm_ne h925 h904 (fun q => by cases q))).trans h925
  have h956 : f933 q673 = some (eJ Γ 6 (fun _ => 0)) := by rw [ef933]; exact (hm_un (hm_ne h926 h904 (fun q => by cases q))).trans h926
  have h957 : f933 q727 = some (eI Γ 6 (fun _ => 0)) := by rw [ef933]; exact (hm_un (hm_ne h927 h904 (fun q => by cases q))).trans h927
  have h958 : f933 q783 = some (eI Γ 6 (fun _ => 0)) := by rw [ef933]; exact (hm_un (hm_ne h928 h904 (fun q => by cases q))).trans h928
  have h959 : f933 q841 = some (eI Γ 6 (fun _ => 0)) := by rw [ef933]; exact (hm_un (hm_ne h929 h904 (fun q => by cases q))).trans h929
  have h960 : f933 q901 = some (eI Γ 6 (fun _ => 0)) := by rw [ef933]; exact (hm_un (hm_ne h903 h904 (fun q => by cases q))).trans h903
  have al961 : alv [q901, q841, q783, q727, q673, q621, q571, q523, q477, q433, q391, q351, q313, q277, q243, q211, q181, q153, q127, q103, q81, q61, q43, q27, q13, q1] f933 := by rw [ef933]; exact al930.up
  have hk962 : hm_k (fun q => q = m0) f f933 := by rw [ef933]; exact hk932.up rfl
  refine lv_aload_n hx hb dX8_init_211 rfl (lv_at hl 0 rfl) ?_
  refine lv_bipush (v := 6) hx hb dX8_init_212 (by decide) ?_
  refine hm_newI hx hb hts hK hO hS hH (N' := 6) (by decide) (by decide) (by decide) (Nat.le_of_ble_eq_true rfl) (Nat.le_of_ble_eq_true rfl) dX8_init_214 (fun q963 H hH hn_q963 hb_q963 hS => ?_)
  obtain ⟨f964, ef964⟩ : ∃ zz_, zz_ = hm_up f933 q963 (eI Γ 6 (fun _ => 0)) := ⟨_, rfl⟩
  have hH : hm_H Γ f964 H := by rw [ef964]; exact hH
  have h965 : f964 q963 = some (eI Γ 6 (fun _ => 0)) := by rw [ef964]; exact hm_us
  have h966 : f964 m0 = some (eR 8 [.ref q1, .ref q13, .ref q27, .ref q43, .ref q61, .ref q81, .ref q103, .ref q127, .ref q153, .ref q181, .ref q211, .ref q243, .ref q277, .ref q313, .ref q351, .ref q391, .ref q433, .ref q477, .ref q523, .ref q571, .ref q621, .ref q673, .ref q727, .ref q783, .ref q841, .ref q901, .null, .null, .int 0, .int 0, .int 0, .int 0, .int 0, .int 0, .int 0, .int 0, .int 0, .int 0, .int 0, .int 0, .int 0, .int 0, .int 0, .int 0, .long 0, .long 0]) := by rw [ef964]; exact (hm_un (hm_nn h934 hn_q963)).trans h934
  have h967 : f964 q1 = some (eI Γ 4 (fun _ => 0)) := by rw [ef964]; exact (hm_un (hm_nn h935 hn_q963)).trans h935
  have h968 : f964 q13 = some (eJ Γ 8 (fun _ => 0)) := by rw [ef964]; exact (hm_un (hm_nn h936 hn_q963)).trans h936
  have h969 : f964 q27 = some (eI Γ 8 (fun _ => 0)) := by rw [ef964]; exact (hm_un (hm_nn h937 hn_q963)).trans h937
  have h970 : f964 q43 = some (eI Γ 8 (fun _ => 0)) := by rw [ef964]; exact (hm_un (hm_nn h938 hn_q963)).trans h938
  have h971 : f964 q61 = some (eI Γ 8 (fun _ => 0)) := by rw [ef964]; exact (hm_un (hm_nn h939 hn_q963)).trans h939
  have h972 : f964 q81 = some (eI Γ 8 (fun _ => 0)) := by rw [ef964]; exact (hm_un (hm_nn h940 hn_q963)).trans h940
  have h973 : f964 q103 = some (eI Γ 8 (fun _ => 0)) := by rw [ef964]; exact (hm_un (hm_nn h941 hn_q963)).trans h941
  have h974 : f964 q127 = some (eI Γ 8 (fun _ => 0)) := by rw [ef964]; exact (hm_un (hm_nn h942 hn_q963)).trans h942
  have h975 : f964 q153 = some (eI Γ 8 (fun _ => 0)) := by rw [ef964]; exact (hm_un (hm_nn h943 hn_q963)).trans h943
  have h976 : f964 q181 = some (eZ Γ 8 (fun _ => 0)) := by rw [ef964]; exact (hm_un (hm_nn h944 hn_q963)).trans h944
  have h977 : f964 q211 = some (eJ Γ 60 (fun _ => 0)) := by rw [ef964]; exact (hm_un (hm_nn h945 hn_q963)).trans h945
  have h978 : f964 q243 = some (eI Γ 60 (fun _ => 0)) := by rw [ef964]; exact (hm_un (hm_nn h946 hn_q963)).trans h946
  have h979 : f964 q277 = some (eI Γ 60 (fun _ => 0)) := by rw [ef964]; exact (hm_un (hm_nn h947 hn_q963)).trans h947
  have h980 : f964 q313 = some (eI Γ 60 (fun _ => 0)) := by rw [ef964]; exact (hm_un (hm_nn h948 hn_q963)).trans h948
  have h981 : f964 q351 = some (eJ Γ 64 (fun _ => 0)) := by rw [ef964]; exact (hm_un (hm_nn h949 hn_q963)).trans h949
  have h982 : f964 q391 = some (eI Γ 64 (fun _ => 0)) := by rw [ef964]; exact (hm_un (hm_nn h950 hn_q963)).trans h950
  have h983 : f964 q433 = some (eI Γ 64 (fun _ => 0)) := by rw [ef964]; exact (hm_un (hm_nn h951 hn_q963)).trans h951
  have h984 : f964 q477 = some (eI Γ 64 (fun _ => 0)) := by rw [ef964]; exact (hm_un (hm_nn h952 hn_q963)).trans h952
  have h985 : f964 q523 = some (eI Γ 64 (fun _ => 0)) := by rw [ef964]; exact (hm_un (hm_nn h953 hn_q963)).trans h953
  have h986 : f964 q571 = some (eI Γ 64 (fun _ => 0)) := by rw [ef964]; exact (hm_un (hm_nn h954 hn_q963)).trans h954
  have h987 : f964 q621 = some (eI Γ 64 (fun _ => 0)) := by rw [ef964]; exact (hm_un (hm_nn h955 hn_q963)).trans h955
  have h988 : f964 q673 = some (eJ Γ 6 (fun _ => 0)) := by rw [ef964]; exact (hm_un (hm_nn h956 hn_q963)).trans h956
  have h989 : f964 q727 = some (eI Γ 6 (fun _ => 0)) := by rw [ef964]; exact (hm_un (hm_nn h957 hn_q963)).trans h957
  have h990 : f964 q783 = some (eI Γ 6 (fun _ => 0)) := by rw [ef964]; exact (hm_un (hm_nn h958 hn_q963)).trans h958
  have h991 : f964 q841 = some (eI Γ 6 (fun _ => 0)) := by rw [ef964]; exact (hm_un (hm_nn h959 hn_q963)).trans h959
  have h992 : f964 q901 = some (eI Γ 6 (fun _ => 0)) := by rw [ef964]; exact (hm_un (hm_nn h960 hn_q963)).trans h960
  have nd994 : List.Nodup [q963, q901, q841, q783, q727, q673, q621, q571, q523, q477, q433, q391, q351, q313, q277, q243, q211, q181, q153, q127, q103, q81, q61, q43, q27, q13, q1] := List.nodup_cons.mpr ⟨al961.not hn_q963, nd931⟩
  have al993 : alv [q963, q901, q841, q783, q727, q673, q621, q571, q523, q477, q433, q391, q351, q313, q277, q243, q211, q181, q153, q127, q103, q81, q61, q43, q27, q13, q1] f964 := by rw [ef964]; exact al961.new
  have hk995 : hm_k (fun q => q = m0) f f964 := by rw [ef964]; exact hk962.upG hn_q963
  refine pF_X8_90 hx hb hts hown hin hK hO hS hH h966 rfl (Nat.le_of_ble_eq_true rfl) rfl dX8_init_216 (fun H locs hH hS => ?_)
  obtain ⟨f996, ef996⟩ : ∃ zz_, zz_ = hm_up f964 m0 (eR 8 [.ref q1, .ref q13, .ref q27, .ref q43, .ref q61, .ref q81, .ref q103, .ref q127, .ref q153, .ref q181, .ref q211, .ref q243, .ref q277, .ref q313, .ref q351, .ref q391, .ref q433, .ref q477, .ref q523, .ref q571, .ref q621, .ref q673, .ref q727, .ref q783, .ref q841, .ref q901, .ref q963, .null, .int 0, .int 0, .int 0, .int 0, .int 0, .int 0, .int 0, .int 0, .int 0, .int 0, .int 0, .int 0, .int 0, .int 0, .int 0, .int 0, .long 0, .long 0]) := ⟨_, rfl⟩
  have hH : hm_H Γ f996 H := by rw [ef996]; exact hH
  have h997 : f996 m0 = some (eR 8 [.ref q1, .ref q13, .ref q27, .ref q43, .ref q61, .ref q81, .ref q103, .ref q127, .ref q153, .ref q181, .ref q211, .ref q243, .ref q277, .ref q313, .ref q351, .ref q391, .ref q433, .ref q477, .ref q523, .ref q571, .ref q621, .ref q673, .ref q727, .ref q783, .ref q841, .ref q901, .ref q963, .null, .int 0, .int 0, .int 0, .int 0, .int 0, .int 0, .int 0, .int 0, .int 0, .int 0, .int 0, .int 0, .int 0, .int 0, .int 0, .int 0, .long 0, .long 0]) := by rw [ef996]; exact hm_us
  have h998 : f996 q1 = some (eI Γ 4 (fun _ => 0)) := by rw [ef996]; exact (hm_un (hm_ne h967 h966 (fun q => by cases q))).trans h967
  have h999 : f996 q13 = some (eJ Γ 8 (fun _ => 0)) := by rw [ef996]; exact (hm_un (hm_ne h968 h966 (fun q => by cases q))).trans h968
  have h1000 : f996 q27 = some (eI Γ 8 (fun _ => 0)) := by rw [ef996]; exact (hm_un (hm_ne h969 h966 (fun q => by cases q))).trans h969
  have h1001 : f996 q43 = some (eI Γ 8 (fun _ => 0)) := by rw [ef996]; exact (hm_un (hm_ne h970 h966 (fun q => by cases q))).trans h970
  have h1002 : f996 q61 = some (eI Γ 8 (fun _ => 0)) := by rw [ef996]; exact (hm_un (hm_ne h971 h966 (fun q => by cases q))).trans h971
  have h1003 : f996 q81 = some (eI Γ 8 (fun _ => 0)) := by rw [ef996]; exact (hm_un (hm_ne h972 h966 (fun q => by cases q))).trans h972
  have h1004 : f996 q103 = some (eI Γ 8 (fun _ => 0)) := by rw [ef996]; exact (hm_un (hm_ne h973 h966 (fun q => by cases q))).trans h973
  have h1005 : f996 q127 = some (eI Γ 8 (fun _ => 0)) := by rw [ef996]; exact (hm_un (hm_ne h974 h966 (fun q => by cases q))).trans h974
  have h1006 : f996 q153 = some (eI Γ 8 (fun _ => 0)) := by rw [ef996]; exact (hm_un (hm_ne h975 h966 (fun q => by cases q))).trans h975
  have h1007 : f996 q181 = some (eZ Γ 8 (fun _ => 0)) := by rw [ef996]; exact (hm_un (hm_ne h976 h966 (fun q => by cases q))).trans h976
  have h1008 : f996 q211 = some (eJ Γ 60 (fun _ => 0)) := by rw [ef996]; exact (hm_un (hm_ne h977 h966 (fun q => by cases q))).trans h977
  have h1009 : f996 q243 = some (eI Γ 60 (fun _ => 0)) := by rw [ef996]; exact (hm_un (hm_ne h978 h966 (fun q => by cases q))).trans h978
  have h1010 : f996 q277 = some (eI Γ 60 (fun _ => 0)) := by rw [ef996]; exact (hm_un (hm_ne h979 h966 (fun q => by cases q))).trans h979
  have h1011 : f996 q313 = some (eI Γ 60 (fun _ => 0)) := by rw [ef996]; exact (hm_un (hm_ne h980 h966 (fun q => by cases q))).trans h980
  have h1012 : f996 q351 = some (eJ Γ 64 (fun _ => 0)) := by rw [ef996]; exact (hm_un (hm_ne h981 h966 (fun q => by cases q))).trans h981
  have h1013 : f996 q391 = some (eI Γ 64 (fun _ => 0)) := by rw [ef996]; exact (hm_un (hm_ne h982 h966 (fun q => by cases q))).trans h982
  have h1014 : f996 q433 = some (eI Γ 64 (fun _ => 0)) := by rw [ef996]; exact (hm_un (hm_ne h983 h966 (fun q => by cases q))).trans h983
  have h1015 : f996 q477 = some (eI Γ 64 (fun _ => 0)) := by rw [ef996]; exact (hm_un (hm_ne h984 h966 (fun q => by cases q))).trans h984
  have h1016 : f996 q523 = some (eI Γ 64 (fun _ => 0)) := by rw [ef996]; exact (hm_un (hm_ne h985 h966 (fun q => by cases q))).trans h985
  have h1017 : f996 q571 = some (eI Γ 64 (fun _ => 0)) := by rw [ef996]; exact (hm_un (hm_ne h986 h966 (fun q => by cases q))).trans h986
  have h1018 : f996 q621 = some (eI Γ 64 (fun _ => 0)) := by rw [ef996]; exact (hm_un (hm_ne h987 h966 (fun q => by cases q))).trans h987
  have h1019 : f996 q673 = some (eJ Γ 6 (fun _ => 0)) := by rw [ef996]; exact (hm_un (hm_ne h988 h966 (fun q => by cases q))).trans h988
  have h1020 : f996 q727 = some (eI Γ 6 (fun _ => 0)) := by rw [ef996]; exact (hm_un (hm_ne h989 h966 (fun q => by cases q))).trans h989
  have h1021 : f996 q783 = some (eI Γ 6 (fun _ => 0)) := by rw [ef996]; exact (hm_un (hm_ne h990 h966 (fun q => by cases q))).trans h990
  have h1022 : f996 q841 = some (eI Γ 6 (fun _ => 0)) := by rw [ef996]; exact (hm_un (hm_ne h991 h966 (fun q => by cases q))).trans h991
  have h1023 : f996 q901 = some (eI Γ 6 (fun _ => 0)) := by rw [ef996]; exact (hm_un (hm_ne h992 h966 (fun q => by cases q))).trans h992
  have h1024 : f996 q963 = some (eI Γ 6 (fun _ => 0)) := by rw [ef996]; exact (hm_un (hm_ne h965 h966 (fun q => by cases q))).trans h965
  have al1025 : alv [q963, q901, q841, q783, q727, q673, q621, q571, q523, q477, q433, q391, q351, q313, q277, q243, q211, q181, q153, q127, q103, q81, q61, q43, q27, q13, q1] f996 := by rw [ef996]; exact al993.up
  have hk1026 : hm_k (fun q => q = m0) f f996 := by rw [ef996]; exact hk995.up rfl
  refine lv_aload_n hx hb dX8_init_219 rfl (lv_at hl 0 rfl) ?_
  refine lv_bipush (v := 6) hx hb dX8_init_220 (by decide) ?_
  refine hm_newI hx hb hts hK hO hS hH (N' := 6) (by decide) (by decide) (by decide) (Nat.le_of_ble_eq_true rfl) (Nat.le_of_ble_eq_true rfl) dX8_init_222 (fun q1027 H hH hn_q1027 hb_q1027 hS => ?_)
  obtain ⟨f1028, ef1028⟩ : ∃ zz_, zz_ = hm_up f996 q1027 (eI Γ 6 (fun _ => 0)) := ⟨_, rfl⟩
  have hH : hm_H Γ f1028 H := by rw [ef1028]; exact hH
  have h1029 : f1028 q1027 = some (eI Γ 6 (fun _ => 0)) := by rw [ef1028]; exact hm_us
  have h1030 : f1028 m0 = some (eR 8 [.ref q1, .ref q13, .ref q27, .ref q43, .ref q61, .ref q81, .ref q103, .ref q127, .ref q153, .ref q181, .ref q211, .ref q243, .ref q277, .ref q313, .ref q351, .ref q391, .ref q433, .ref q477, .ref q523, .ref q571, .ref q621, .ref q673, .ref q727, .ref q783, .ref q841, .ref q901, .ref q963, .null, .int 0, .int 0, .int 0, .int 0, .int 0, .int 0, .int 0, .int 0, .int 0, .int 0, .int 0, .int 0, .int 0, .int 0, .int 0, .int 0, .long 0, .long 0]) := by rw [ef1028]; exact (hm_un (hm_nn h997 hn_q1027)).trans h997
  have h1031 : f1028 q1 = some (eI Γ 4 (fun _ => 0)) := by rw [ef1028]; exact (hm_un (hm_nn h998 hn_q1027)).trans h998
  have h1032 : f1028 q13 = some (eJ Γ 8 (fun _ => 0)) := by rw [ef1028]; exact (hm_un (hm_nn h999 hn_q1027)).trans h999
  have h1033 : f1028 q27 = some (eI Γ 8 (fun _ => 0)) := by rw [ef1028]; exact (hm_un (hm_nn h1000 hn_q1027)).trans h1000
  have h1034 : f1028 q43 = some (eI Γ 8 (fun _ => 0)) := by rw [ef1028]; exact (hm_un (hm_nn h1001 hn_q1027)).trans h1001
  have h1035 : f1028 q61 = some (eI Γ 8 (fun _ => 0)) := by rw [ef1028]; exact (hm_un (hm_nn h1002 hn_q1027)).trans h1002
  have h1036 : f1028 q81 = some (eI Γ 8 (fun _ => 0)) := by rw [ef1028]; exact (hm_un (hm_nn h1003 hn_q1027)).trans h1003
  have h1037 : f1028 q103 = some (eI Γ 8 (fun _ => 0)) := by rw [ef1028]; exact (hm_un (hm_nn h1004 hn_q1027)).trans h1004
  have h1038 : f1028 q127 = some (eI Γ 8 (fun _ => 0)) := by rw [ef1028]; exact (hm_un (hm_nn h1005 hn_q1027)).trans h1005
  have h1039 : f1028 q153 = some (eI Γ 8 (fun _ => 0)) := by rw [ef1028]; exact (hm_un (hm_nn h1006 hn_q1027)).trans h1006
  have h1040 : f1028 q181 = some (eZ Γ 8 (fun _ => 0)) := by rw [ef1028]; exact (hm_un (hm_nn h1007 hn_q1027)).trans h1007
  have h1041 : f1028 q211 = some (eJ Γ 60 (fun _ => 0)) := by rw [ef1028]; exact (hm_un (hm_nn h1008 hn_q1027)).trans h1008
  have h1042 : f1028 q243 = some (eI Γ 60 (fun _ => 0)) := by rw [ef1028]; exact (hm_un (hm_nn h1009 hn_q1027)).trans h1009
  have h1043 : f1028 q277 = some (eI Γ 60 (fun _ => 0)) := by rw [ef1028]; exact (hm_un (hm_nn h1010 hn_q1027)).trans h1010
  have h1044 : f1028 q313 = some (eI Γ 60 (fun _ => 0)) := by rw [ef1028]; exact (hm_un (hm_nn h1011 hn_q1027)).trans h1011
  have h1045 : f1028 q351 = some (eJ Γ 64 (fun _ => 0)) := by rw [ef1028]; exact (hm_un (hm_nn h1012 hn_q1027)).trans h1012
  have h1046 : f1028 q391 = some (eI Γ 64 (fun _ => 0)) := by rw [ef1028]; exact (hm_un (hm_nn h1013 hn_q1027)).trans h1013
  have h1047 : f1028 q433 = some (eI Γ 64 (fun _ => 0)) := by rw [ef1028]; exact (hm_un (hm_nn h1014 hn_q1027)).trans h1014
  have h1048 : f1028 q477 = some (eI Γ 64 (fun _ => 0)) := by rw [ef1028]; exact (hm_un (hm_nn h1015 hn_q1027)).trans h1015
  have h1049 : f1028 q523 = some (eI Γ 64 (fun _ => 0)) := by rw [ef1028]; exact (hm_un (hm_nn h1016 hn_q1027)).trans h1016
  have h1050 : f1028 q571 = some (eI Γ 64 (fun _ => 0)) := by rw [ef1028]; exact (hm_un (hm_nn h1017 hn_q1027)).trans h1017
  have h1051 : f1028 q621 = some (eI Γ 64 (fun _ => 0)) := by rw [ef1028]; exact (hm_un (hm_nn h1018 hn_q1027)).trans h1018
  have h1052 : f1028 q673 = some (eJ Γ 6 (fun _ => 0)) := by rw [ef1028]; exact (hm_un (hm_nn h1019 hn_q1027)).trans h1019
  have h1053 : f1028 q727 = some (eI Γ 6 (fun _ => 0)) := by rw [ef1028]; exact (hm_un (hm_nn h1020 hn_q1027)).trans h1020
  have h1054 : f1028 q783 = some (eI Γ 6 (fun _ => 0)) := by rw [ef1028]; exact (hm_un (hm_nn h1021 hn_q1027)).trans h1021
  have h1055 : f1028 q841 = some (eI Γ 6 (fun _ => 0)) := by rw [ef1028]; exact (hm_un (hm_nn h1022 hn_q1027)).trans h1022
  have h1056 : f1028 q901 = some (eI Γ 6 (fun _ => 0)) := by rw [ef1028]; exact (hm_un (hm_nn h1023 hn_q1027)).trans h1023
  have h1057 : f1028 q963 = some (eI Γ 6 (fun _ => 0)) := by rw [ef1028]; exact (hm_un (hm_nn h1024 hn_q1027)).trans h1024
  have nd1059 : List.Nodup [q1027, q963, q901, q841, q783, q727, q673, q621, q571, q523, q477, q433, q391, q351, q313, q277, q243, q211, q181, q153, q127, q103, q81, q61, q43, q27, q13, q1] := List.nodup_cons.mpr ⟨al1025.not hn_q1027, nd994⟩
  have al1058 : alv [q1027, q963, q901, q841, q783, q727, q673, q621, q571, q523, q477, q433, q391, q351, q313, q277, q243, q211, q181, q153, q127, q103, q81, q61, q43, q27, q13, q1] f1028 := by rw [ef1028]; exact al1025.new
  have hk1060 : hm_k (fun q => q = m0) f f1028 := by rw [ef1028]; exact hk1026.upG hn_q1027
  refine pF_X8_93 hx hb hts hown hin hK hO hS hH h1030 rfl (Nat.le_of_ble_eq_true rfl) rfl dX8_init_224 (fun H locs hH hS => ?_)
  obtain ⟨f1061, ef1061⟩ : ∃ zz_, zz_ = hm_up f1028 m0 (eR 8 [.ref q1, .ref q13, .ref q27, .ref q43, .ref q61, .ref q81, .ref q103, .ref q127, .ref q153, .ref q181, .ref q211, .ref q243, .ref q277, .ref q313, .ref q351, .ref q391, .ref q433, .ref q477, .ref q523, .ref q571, .ref q621, .ref q673, .ref q727, .ref q783, .ref q841, .ref q901, .ref q963, .ref q1027, .int 0, .int 0, .int 0, .int 0, .int 0, .int 0, .int 0, .int 0, .int 0, .int 0, .int 0, .int 0, .int 0, .int 0, .int 0, .int 0, .long 0, .long 0]) := ⟨_, rfl⟩
  have hH : hm_H Γ f1061 H := by rw [ef1061]; exact hH
  have h1062 : f1061 m0 = some (eR 8 [.ref q1, .ref q13, .ref q27, .ref q43, .ref q61, .ref q81, .ref q103, .ref q127, .ref q153, .ref q181, .ref q211, .ref q243, .ref q277, .ref q313, .ref q351, .ref q391, .ref q433, .ref q477, .ref q523, .ref q571, .ref q621, .ref q673, .ref q727, .ref q783, .ref q841, .ref q901, .ref q963, .ref q1027, .int 0, .int 0, .int 0, .int 0, .int 0, .int 0, .int 0, .int 0, .int 0, .int 0, .int 0, .int 0, .int 0, .int 0, .int 0, .int 0, .long 0, .long 0]) := by rw [ef1061]; exact hm_us
  have h1063 : f1061 q1 = some (eI Γ 4 (fun _ => 0)) := by rw [ef1061]; exact (hm_un (hm_ne h1031 h1030 (fun q => by cases q))).trans h1031
  have h1064 : f1061 q13 = some (eJ Γ 8 (fun _ => 0)) := by rw [ef1061]; exact (hm_un (hm_ne h1032 h1030 (fun q => by cases q))).trans h1032
  have h1065 : f1061 q27 = some (eI Γ 8 (fun _ => 0)) := by rw [ef1061]; exact (hm_un (hm_ne h1033 h1030 (fun q => by cases q))).trans h1033
  have h1066 : f1061 q43 = some (eI Γ 8 (fun _ => 0)) := by rw [ef1061]; exact (hm_un (hm_ne h1034 h1030 (fun q => by cases q))).trans h1034
  have h1067 : f1061 q61 = some (eI Γ 8 (fun _ => 0)) := by rw [ef1061]; exact (hm_un (hm_ne h1035 h1030 (fun q => by cases q))).trans h1035
  have h1068 : f1061 q81 = some (eI Γ 8 (fun _ => 0)) := by rw [ef1061]; exact (hm_un (hm_ne h1036 h1030 (fun q => by cases q))).trans h1036
  have h1069 : f1061 q103 = some (eI Γ 8 (fun _ => 0)) := by rw [ef1061]; exact (hm_un (hm_ne h1037 h1030 (fun q => by cases q))).trans h1037
  have h1070 : f1061 q127 = some (eI Γ 8 (fun _ => 0)) := by rw [ef1061]; exact (hm_un (hm_ne h1038 h1030 (fun q => by cases q))).trans h1038
  have h1071 : f1061 q153 = some (eI Γ 8 (fun _ => 0)) := by rw [ef1061]; exact (hm_un (hm_ne h1039 h1030 (fun q => by cases q))).trans h1039
  have h1072 : f1061 q181 = some (eZ Γ 8 (fun _ => 0)) := by rw [ef1061]; exact (hm_un (hm_ne h1040 h1030 (fun q => by cases q))).trans h1040
  have h1073 : f1061 q211 = some (eJ Γ 60 (fun _ => 0)) := by rw [ef1061]; exact (hm_un (hm_ne h1041 h1030 (fun q => by cases q))).trans h1041
  have h1074 : f1061 q243 = some (eI Γ 60 (fun _ => 0)) := by rw [ef1061]; exact (hm_un (hm_ne h1042 h1030 (fun q => by cases q))).trans h1042
  have h1075 : f1061 q277 = some (eI Γ 60 (fun _ => 0)) := by rw [ef1061]; exact (hm_un (hm_ne h1043 h1030 (fun q => by cases q))).trans h1043
  have h1076 : f1061 q313 = some (eI Γ 60 (fun _ => 0)) := by rw [ef1061]; exact (hm_un (hm_ne h1044 h1030 (fun q => by cases q))).trans h1044
  have h1077 : f1061 q351 = some (eJ Γ 64 (fun _ => 0)) := by rw [ef1061]; exact (hm_un (hm_ne h1045 h1030 (fun q => by cases q))).trans h1045
  have h1078 : f1061 q391 = some (eI Γ 64 (fun _ => 0)) := by rw [ef1061]; exact (hm_un (hm_ne h1046 h1030 (fun q => by cases q))).trans h1046
  have h1079 : f1061 q433 = some (eI Γ 64 (fun _ => 0)) := by rw [ef1061]; exact (hm_un (hm_ne h1047 h1030 (fun q => by cases q))).trans h1047
  have h1080 : f1061 q477 = some (eI Γ 64 (fun _ => 0)) := by rw [ef1061]; exact (hm_un (hm_ne h1048 h1030 (fun q => by cases q))).trans h1048
  have h1081 : f1061 q523 = some (eI Γ 64 (fun _ => 0)) := by rw [ef1061]; exact (hm_un (hm_ne h1049 h1030 (fun q => by cases q))).trans h1049
  have h1082 : f1061 q571 = some (eI Γ 64 (fun _ => 0)) := by rw [ef1061]; exact (hm_un (hm_ne h1050 h1030 (fun q => by cases q))).trans h1050
  have h1083 : f1061 q621 = some (eI Γ 64 (fun _ => 0)) := by rw [ef1061]; exact (hm_un (hm_ne h1051 h1030 (fun q => by cases q))).trans h1051
  have h1084 : f1061 q673 = some (eJ Γ 6 (fun _ => 0)) := by rw [ef1061]; exact (hm_un (hm_ne h1052 h1030 (fun q => by cases q))).trans h1052
  have h1085 : f1061 q727 = some (eI Γ 6 (fun _ => 0)) := by rw [ef1061]; exact (hm_un (hm_ne h1053 h1030 (fun q => by cases q))).trans h1053
  have h1086 : f1061 q783 = some (eI Γ 6 (fun _ => 0)) := by rw [ef1061]; exact (hm_un (hm_ne h1054 h1030 (fun q => by cases q))).trans h1054
  have h1087 : f1061 q841 = some (eI Γ 6 (fun _ => 0)) := by rw [ef1061]; exact (hm_un (hm_ne h1055 h1030 (fun q => by cases q))).trans h1055
  have h1088 : f1061 q901 = some (eI Γ 6 (fun _ => 0)) := by rw [ef1061]; exact (hm_un (hm_ne h1056 h1030 (fun q => by cases q))).trans h1056
  have h1089 : f1061 q963 = some (eI Γ 6 (fun _ => 0)) := by rw [ef1061]; exact (hm_un (hm_ne h1057 h1030 (fun q => by cases q))).trans h1057
  have h1090 : f1061 q1027 = some (eI Γ 6 (fun _ => 0)) := by rw [ef1061]; exact (hm_un (hm_ne h1029 h1030 (fun q => by cases q))).trans h1029
  have al1091 : alv [q1027, q963, q901, q841, q783, q727, q673, q621, q571, q523, q477, q433, q391, q351, q313, q277, q243, q211, q181, q153, q127, q103, q81, q61, q43, q27, q13, q1] f1061 := by rw [ef1061]; exact al1058.up
  have hk1092 : hm_k (fun q => q = m0) f f1061 := by rw [ef1061]; exact hk1060.up rfl
  refine lv_aload_n hx hb dX8_init_227 rfl (lv_at hl 0 rfl) ?_
  refine lv_bipush (v := 24) hx hb dX8_init_228 (by decide) ?_
  refine pf_X8_96 hx hb hts hown hK hO hS hH h1062 rfl (Nat.le_of_ble_eq_true rfl) rfl dX8_init_230 (fun H locs hH hS => ?_)
  obtain ⟨f1093, ef1093⟩ : ∃ zz_, zz_ = hm_up f1061 m0 (eR 8 [.ref q1, .ref q13, .ref q27, .ref q43, .ref q61, .ref q81, .ref q103, .ref q127, .ref q153, .ref q181, .ref q211, .ref q243, .ref q277, .ref q313, .ref q351, .ref q391, .ref q433, .ref q477, .ref q523, .ref q571, .ref q621, .ref q673, .ref q727, .ref q783, .ref q841, .ref q901, .ref q963, .ref q1027, .int 0, .int 0, .int 0, .int 0, .int 0, .int 24, .int 0, .int 0, .int 0, .int 0, .int 0, .int 0, .int 0, .int 0, .int 0, .int 0, .long 0, .long 0]) := ⟨_, rfl⟩
  have hH : hm_H Γ f1093 H := by rw [ef1093]; exact hH
  have h1094 : f1093 m0 = some (eR 8 [.ref q1, .ref q13, .ref q27, .ref q43, .ref q61, .ref q81, .ref q103, .ref q127, .ref q153, .ref q181, .ref q211, .ref q243, .ref q277, .ref q313, .ref q351, .ref q391, .ref q433, .ref q477, .ref q523, .ref q571, .ref q621, .ref q673, .ref q727, .ref q783, .ref q841, .ref q901, .ref q963, .ref q1027, .int 0, .int 0, .int 0, .int 0, .int 0, .int 24, .int 0, .int 0, .int 0, .int 0, .int 0, .int 0, .int 0, .int 0, .int 0, .int 0, .long 0, .long 0]) := by rw [ef1093]; exact hm_us
  have h1095 : f1093 q1 = some (eI Γ 4 (fun _ => 0)) := by rw [ef1093]; exact (hm_un (hm_ne h1063 h1062 (fun q => by cases q))).trans h1063
  have h1096 : f1093 q13 = some (eJ Γ 8 (fun _ => 0)) := by rw [ef1093]; exact (hm_un (hm_ne h1064 h1062 (fun q => by cases q))).trans h1064
  have h1097 : f1093 q27 = some (eI Γ 8 (fun _ => 0)) := by rw [ef1093]; exact (hm_un (hm_ne h1065 h1062 (fun q => by cases q))).trans h1065
  have h1098 : f1093 q43 = some (eI Γ 8 (fun _ => 0)) := by rw [ef1093]; exact (hm_un (hm_ne h1066 h1062 (fun q => by cases q))).trans h1066
  have h1099 : f1093 q61 = some (eI Γ 8 (fun _ => 0)) := by rw [ef1093]; exact (hm_un (hm_ne h1067 h1062 (fun q => by cases q))).trans h1067
  have h1100 : f1093 q81 = some (eI Γ 8 (fun _ => 0)) := by rw [ef1093]; exact (hm_un (hm_ne h1068 h1062 (fun q => by cases q))).trans h1068
  have h1101 : f1093 q103 = some (eI Γ 8 (fun _ => 0)) := by rw [ef1093]; exact (hm_un (hm_ne h1069 h1062 (fun q => by cases q))).trans h1069
  have h1102 : f1093 q127 = some (eI Γ 8 (fun _ => 0)) := by rw [ef1093]; exact (hm_un (hm_ne h1070 h1062 (fun q => by cases q))).trans h1070
  have h1103 : f1093 q153 = some (eI Γ 8 (fun _ => 0)) := by rw [ef1093]; exact (hm_un (hm_ne h1071 h1062 (fun q => by cases q))).trans h1071
  have h1104 : f1093 q181 = some (eZ Γ 8 (fun _ => 0)) := by rw [ef1093]; exact (hm_un (hm_ne h1072 h1062 (fun q => by cases q))).trans h1072
  have h1105 : f1093 q211 = some (eJ Γ 60 (fun _ => 0)) := by rw [ef1093]; exact (hm_un (hm_ne h1073 h1062 (fun q => by cases q))).trans h1073
  have h1106 : f1093 q243 = some (eI Γ 60 (fun _ => 0)) := by rw [ef1093]; exact (hm_un (hm_ne h1074 h1062 (fun q => by cases q))).trans h1074
  have h1107 : f1093 q277 = some (eI Γ 60 (fun _ => 0)) := by rw [ef1093]; exact (hm_un (hm_ne h1075 h1062 (fun q => by cases q))).trans h1075
  have h1108 : f1093 q313 = some (eI Γ 60 (fun _ => 0)) := by rw [ef1093]; exact (hm_un (hm_ne h1076 h1062 (fun q => by cases q))).trans h1076
  have h1109 : f1093 q351 = some (eJ Γ 64 (fun _ => 0)) := by rw [ef1093]; exact (hm_un (hm_ne h1077 h1062 (fun q => by cases q))).trans h1077
  have h1110 : f1093 q391 = some (eI Γ 64 (fun _ => 0)) := by rw [ef1093]; exact (hm_un (hm_ne h1078 h1062 (fun q => by cases q))).trans h1078
  have h1111 : f1093 q433 = some (eI Γ 64 (fun _ => 0)) := by rw [ef1093]; exact (hm_un (hm_ne h1079 h1062 (fun q => by cases q))).trans h1079
  have h1112 : f1093 q477 = some (eI Γ 64 (fun _ => 0)) := by rw [ef1093]; exact (hm_un (hm_ne h1080 h1062 (fun q => by cases q))).trans h1080
  have h1113 : f1093 q523 = some (eI Γ 64 (fun _ => 0)) := by rw [ef1093]; exact (hm_un (hm_ne h1081 h1062 (fun q => by cases q))).trans h1081
  have h1114 : f1093 q571 = some (eI Γ 64 (fun _ => 0)) := by rw [ef1093]; exact (hm_un (hm_ne h1082 h1062 (fun q => by cases q))).trans h1082
  have h1115 : f1093 q621 = some (eI Γ 64 (fun _ => 0)) := by rw [ef1093]; exact (hm_un (hm_ne h1083 h1062 (fun q => by cases q))).trans h1083
  have h1116 : f1093 q673 = some (eJ Γ 6 (fun _ => 0)) := by rw [ef1093]; exact (hm_un (hm_ne h1084 h1062 (fun q => by cases q))).trans h1084
  have h1117 : f1093 q727 = some (eI Γ 6 (fun _ => 0)) := by rw [ef1093]; exact (hm_un (hm_ne h1085 h1062 (fun q => by cases q))).trans h1085
  have h1118 : f1093 q783 = some (eI Γ 6 (fun _ => 0)) := by rw [ef1093]; exact (hm_un (hm_ne h1086 h1062 (fun q => by cases q))).trans h1086
  have h1119 : f1093 q841 = some (eI Γ 6 (fun _ => 0)) := by rw [ef1093]; exact (hm_un (hm_ne h1087 h1062 (fun q => by cases q))).trans h1087
  have h1120 : f1093 q901 = some (eI Γ 6 (fun _ => 0)) := by rw [ef1093]; exact (hm_un (hm_ne h1088 h1062 (fun q => by cases q))).trans h1088
  have h1121 : f1093 q963 = some (eI Γ 6 (fun _ => 0)) := by rw [ef1093]; exact (hm_un (hm_ne h1089 h1062 (fun q => by cases q))).trans h1089
  have h1122 : f1093 q1027 = some (eI Γ 6 (fun _ => 0)) := by rw [ef1093]; exact (hm_un (hm_ne h1090 h1062 (fun q => by cases q))).trans h1090
  have al1123 : alv [q1027, q963, q901, q841, q783, q727, q673, q621, q571, q523, q477, q433, q391, q351, q313, q277, q243, q211, q181, q153, q127, q103, q81, q61, q43, q27, q13, q1] f1093 := by rw [ef1093]; exact al1091.up
  have hk1124 : hm_k (fun q => q = m0) f f1093 := by rw [ef1093]; exact hk1092.up rfl
  refine lv_aload_n hx hb dX8_init_233 rfl (lv_at hl 0 rfl) ?_
  refine lv_iconst (v := 3) hx hb dX8_init_234 (by decide) ?_
  refine pf_X8_100 hx hb hts hown hK hO hS hH h1094 rfl (Nat.le_of_ble_eq_true rfl) rfl dX8_init_235 (fun H locs hH hS => ?_)
  obtain ⟨f1125, ef1125⟩ : ∃ zz_, zz_ = hm_up f1093 m0 (eR 8 [.ref q1, .ref q13, .ref q27, .ref q43, .ref q61, .ref q81, .ref q103, .ref q127, .ref q153, .ref q181, .ref q211, .ref q243, .ref q277, .ref q313, .ref q351, .ref q391, .ref q433, .ref q477, .ref q523, .ref q571, .ref q621, .ref q673, .ref q727, .ref q783, .ref q841, .ref q901, .ref q963, .ref q1027, .int 0, .int 0, .int 0, .int 0, .int 0, .int 24, .int 0, .int 3, .int 0, .int 0, .int 0, .int 0, .int 0, .int 0, .int 0, .int 0, .long 0, .long 0]) := ⟨_, rfl⟩
  have hH : hm_H Γ f1125 H := by rw [ef1125]; exact hH
  have h1126 : f1125 m0 = some (eR 8 [.ref q1, .ref q13, .ref q27, .ref q43, .ref q61, .ref q81, .ref q103, .ref q127, .ref q153, .ref q181, .ref q211, .ref q243, .ref q277, .ref q313, .ref q351, .ref q391, .ref q433, .ref q477, .ref q523, .ref q571, .ref q621, .ref q673, .ref q727, .ref q783, .ref q841, .ref q901, .ref q963, .ref q1027, .int 0, .int 0, .int 0, .int 0, .int 0, .int 24, .int 0, .int 3, .int 0, .int 0, .int 0, .int 0, .int 0, .int 0, .int 0, .int 0, .long 0, .long 0]) := by rw [ef1125]; exact hm_us
  have h1127 : f1125 q1 = some (eI Γ 4 (fun _ => 0)) := by rw [ef1125]; exact (hm_un (hm_ne h1095 h1094 (fun q => by cases q))).trans h1095
  have h1128 : f1125 q13 = some (eJ Γ 8 (fun _ => 0)) := by rw [ef1125]; exact (hm_un (hm_ne h1096 h1094 (fun q => by cases q))).trans h1096
  have h1129 : f1125 q27 = some (eI Γ 8 (fun _ => 0)) := by rw [ef1125]; exact (hm_un (hm_ne h1097 h1094 (fun q => by cases q))).trans h1097
  have h1130 : f1125 q43 = some (eI Γ 8 (fun _ => 0)) := by rw [ef1125]; exact (hm_un (hm_ne h1098 h1094 (fun q => by cases q))).trans h1098
  have h1131 : f1125 q61 = some (eI Γ 8 (fun _ => 0)) := by rw [ef1125]; exact (hm_un (hm_ne h1099 h1094 (fun q => by cases q))).trans h1099
  have h1132 : f1125 q81 = some (eI Γ 8 (fun _ => 0)) := by rw [ef1125]; exact (hm_un (hm_ne h1100 h1094 (fun q => by cases q))).trans h1100
  have h1133 : f1125 q103 = some (eI Γ 8 (fun _ => 0)) := by rw [ef1125]; exact (hm_un (hm_ne h1101 h1094 (fun q => by cases q))).trans h1101
  have h1134 : f1125 q127 = some (eI Γ 8 (fun _ => 0)) := by rw [ef1125]; exact (hm_un (hm_ne h1102 h1094 (fun q => by cases q))).trans h1102
  have h1135 : f1125 q153 = some (eI Γ 8 (fun _ => 0)) := by rw [ef1125]; exact (hm_un (hm_ne h1103 h1094 (fun q => by cases q))).trans h1103
  have h1136 : f1125 q181 = some (eZ Γ 8 (fun _ => 0)) := by rw [ef1125]; exact (hm_un (hm_ne h1104 h1094 (fun q => by cases q))).trans h1104
  have h1137 : f1125 q211 = some (eJ Γ 60 (fun _ => 0)) := by rw [ef1125]; exact (hm_un (hm_ne h1105 h1094 (fun q => by cases q))).trans h1105
  have h1138 : f1125 q243 = some (eI Γ 60 (fun _ => 0)) := by rw [ef1125]; exact (hm_un (hm_ne h1106 h1094 (fun q => by cases q))).trans h1106
  have h1139 : f1125 q277 = some (eI Γ 60 (fun _ => 0)) := by rw [ef1125]; exact (hm_un (hm_ne h1107 h1094 (fun q => by cases q))).trans h1107
  have h1140 : f1125 q313 = some (eI Γ 60 (fun _ => 0)) := by rw [ef1125]; exact (hm_un (hm_ne h1108 h1094 (fun q => by cases q))).trans h1108
  have h1141 : f1125 q351 = some (eJ Γ 64 (fun _ => 0)) := by rw [ef1125]; exact (hm_un (hm_ne h1109 h1094 (fun q => by cases q))).trans h1109
  have h1142 : f1125 q391 = some (eI Γ 64 (fun _ => 0)) := by rw [ef1125]; exact (hm_un (hm_ne h1110 h1094 (fun q => by cases q))).trans h1110
  have h1143 : f1125 q433 = some (eI Γ 64 (fun _ => 0)) := by rw [ef1125]; exact (hm_un (hm_ne h1111 h1094 (fun q => by cases q))).trans h1111
  have h1144 : f1125 q477 = some (eI Γ 64 (fun _ => 0)) := by rw [ef1125]; exact (hm_un (hm_ne h1112 h1094 (fun q => by cases q))).trans h1112
  have h1145 : f1125 q523 = some (eI Γ 64 (fun _ => 0)) := by rw [ef1125]; exact (hm_un (hm_ne h1113 h1094 (fun q => by cases q))).trans h1113
  have h1146 : f1125 q571 = some (eI Γ 64 (fun _ => 0)) := by rw [ef1125]; exact (hm_un (hm_ne h1114 h1094 (fun q => by cases q))).trans h1114
  have h1147 : f1125 q621 = some (eI Γ 64 (fun _ => 0)) := by rw [ef1125]; exact (hm_un (hm_ne h1115 h1094 (fun q => by cases q))).trans h1115
  have h1148 : f1125 q673 = some (eJ Γ 6 (fun _ => 0)) := by rw [ef1125]; exact (hm_un (hm_ne h1116 h1094 (fun q => by cases q))).trans h1116
  have h1149 : f1125 q727 = some (eI Γ 6 (fun _ => 0)) := by rw [ef1125]; exact (hm_un (hm_ne h1117 h1094 (fun q => by cases q))).trans h1117
  have h1150 : f1125 q783 = some (eI Γ 6 (fun _ => 0)) := by rw [ef1125]; exact (hm_un (hm_ne h1118 h1094 (fun q => by cases q))).trans h1118
  have h1151 : f1125 q841 = some (eI Γ 6 (fun _ => 0)) := by rw [ef1125]; exact (hm_un (hm_ne h1119 h1094 (fun q => by cases q))).trans h1119
  have h1152 : f1125 q901 = some (eI Γ 6 (fun _ => 0)) := by rw [ef1125]; exact (hm_un (hm_ne h1120 h1094 (fun q => by cases q))).trans h1120
  have h1153 : f1125 q963 = some (eI Γ 6 (fun _ => 0)) := by rw [ef1125]; exact (hm_un (hm_ne h1121 h1094 (fun q => by cases q))).trans h1121
  have h1154 : f1125 q1027 = some (eI Γ 6 (fun _ => 0)) := by rw [ef1125]; exact (hm_un (hm_ne h1122 h1094 (fun q => by cases q))).trans h1122
  have al1155 : alv [q1027, q963, q901, q841, q783, q727, q673, q621, q571, q523, q477, q433, q391, q351, q313, q277, q243, q211, q181, q153, q127, q103, q81, q61, q43, q27, q13, q1] f1125 := by rw [ef1125]; exact al1123.up
  have hk1156 : hm_k (fun q => q = m0) f f1125 := by rw [ef1125]; exact hk1124.up rfl
  exact hm_vret hx hb hr hlocks hS hH (⟨rfl, fun k => [q1027, q963, q901, q841, q783, q727, q673, q621, q571, q523, q477, q433, q391, q351, q313, q277, q243, q211, q181, q153, q127, q103, q81, q61, q43, q27, q13, q1].getD (27 - k) 0, rI_of nd1059 rfl, MW.mk (dz := 0) (gd := 0) (hi := 0) (mi := 0) (fh := 0) h1126 ⟨⟨h1141, h1142, h1143, h1144, h1145, h1146, h1147⟩, ⟨_, _, _, _, _, _, _, h1148, h1149, h1150, h1151, h1152, h1153, h1154⟩, h1127, ⟨(by rw [show (fun i => b4 (gs0 i).2.1) = fun _ => (0 : Int64) from funext (fun _ => b4_0.symm)]; exact h1128), h1129, h1130, h1131, h1132, h1133, h1134, h1135, h1136⟩, (by rw [show (fun i => b4 (ts0 i).2.1) = fun _ => (0 : Int64) from funext (fun _ => b4_0.symm)]; exact h1137), h1138, h1139, h1140⟩, hk1156⟩) (Nat.le_of_ble_eq_true rfl) (Nat.le_of_ble_eq_true rfl) dX8_init_238
