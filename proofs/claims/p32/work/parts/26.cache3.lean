/-! the Cache: put, fitInto, become, and its making -/
theorem dfX2 : ∀ j, j < 7 → defaultValue (tyX2 j) = vp_V [.long 0, .int 0, .int 0, .int 0, .int 0, .int 0, .int 0] j
  | 0, _ => rfl
  | 1, _ => rfl
  | 2, _ => rfl
  | 3, _ => rfl
  | 4, _ => rfl
  | 5, _ => rfl
  | 6, _ => rfl
  | j + 7, h => absurd h (by omega)
section CN
variable {p : Program} {l : Launch} {e : Env} {R : Room} {s : State} {m : MethodId} {args : Array Value} {below : List Frame} {meth : Method} {c : Code} {H : Heap} {locs : List Loc} {cells slots : Nat} {Q : State → Prop}
variable {cc : ByteArray} {pc nL : Nat} {ls : Array Slot} {rest : List Value} {Γ : Gm} {f : Hm} {a : Nat}
theorem hm_callN {n nA k mc ms : Nat} {b : ByteArray} {As : List Value} {Post : Option Value → Hm → Prop} (hm2 : Cond.instanceMethod yX2_init ∈ lwG) (hm3 : Cond.initialized yX2_init.cls ∈ lwG) (hm4 : Cond.code yX2_init b n none ∈ lwG) (hn : hm_nm yX2_init nA) (hnA : As.length = nA)
    (hx : p.tables.exec = Jvm.exec) (hb : c.code = cc) (hml : c.maxLocals = nL) (hown : s.vm.findClass RX1 = some m.cls) (hts : ∀ w ∈ lwG, w.before args s = true) (hK : KK Γ s) (hO : hm_O Γ s.heap) (hS : va_S (gA Γ) s.heap H locs) (hH : hm_H Γ f H) (hsz : ls.size = nL)
    (hM : Ct Γ l yX2_init b n none k mc ms (.ref a :: As) f Post) (hR : 10 * k + 1 ≤ R.frames ∧ 8 + (n + 11) + 200 * k ≤ R.locals) (hf : cells + mc ≤ R.cells ∧ slots + ms ≤ R.slots) {st0 : List Value} (hst : st0 = As.reverse ++ .ref a :: rest) (hW : (rest.map fun v => v.category).sum ≤ 8) (hdg : decode cc pc = .ok (.invokespecial 33, 3))
    (kk : ∀ (v : Option Value) (f' : Hm) (H1 : Heap) (locs1 : List Loc), Post v f' → hm_H Γ f' H1 → va_S (gA Γ) s.heap H1 locs1 → W p l e R s m args below meth c H1 locs1 (cells + mc) (slots + ms) Q (F0 m (pc + 3) ls (v.toList ++ rest))) : W p l e R s m args below meth c H locs cells slots Q (F0 m pc ls st0) := by
  have hG : GoodIn lwG (wz yX2_init b n none) := by
    intro w hw
    rcases List.mem_cons.mp hw with q | q
    · rw [q]; exact ⟨hm4, good_of_word (lwG_good hm4)⟩
    · exact ⟨q, good_of_word (lwG_good q)⟩
  exact hm_call (va_runIN (host := "TileWarden") ⟨hx, hb, hml, hown, hts⟩ hM ⟨va_cnB nA hts hG rfl rfl rfl hK.2.2.1.2.2 (hts _ hm3) hn hR, rfl, hts _ hm2⟩ (hm_pre hK hO hS hH) rfl hnA hsz hst (lv_room (pc := pc) (ls := ls) (m := m) (rest := rest) hW) hdg hf) hS kk
end CN
/-- what was there, but for S, is there -/
def hm_k (S : Nat → Prop) (f f' : Hm) : Prop := ∀ (q : Nat) (e : va_E), ¬ S q → f q = some e → f' q = some e
theorem hm_k.rf {S : Nat → Prop} {f : Hm} : hm_k S f f := fun _ _ _ h => h
theorem hm_k.tr {S : Nat → Prop} {f g h : Hm} (h1 : hm_k S f g) (h2 : hm_k S g h) : hm_k S f h := fun q e hq he => h2 q e hq (h1 q e hq he)
theorem hm_k.up {S : Nat → Prop} {f g : Hm} {a : Nat} {e : va_E} (h : hm_k S f g) (ha : S a) : hm_k S f (hm_up g a e) := fun q x hq hx => (hm_un (fun z => hq (by rw [z]; exact ha))).trans (h q x hq hx)
theorem hm_k.upN {S : Nat → Prop} {f g : Hm} {a : Nat} {e : va_E} (h : hm_k S f g) (ha : f a = none) : hm_k S f (hm_up g a e) := fun q x hq hx => (hm_un (hm_nn hx ha)).trans (h q x hq hx)
theorem hm_k.mono {S T : Nat → Prop} {f g : Hm} (h : hm_k S f g) (hST : ∀ q, S q → T q) : hm_k T f g := fun q e hq => h q e (fun z => hq (hST q z))
theorem hm_fr.k {S : Nat → Prop} {f g : Hm} (h : hm_fr S f g) : hm_k S f g := fun q e hq he => (h q hq).trans he
theorem CA.kp {Γ : Gm} {f f' : Hm} {S : Nat → Prop} {c sl n : Nat} {en : Nat → Nat} {E : Nat → EV} {cn rm us : Int32} (h : CA Γ f c sl n en E cn rm us) (hf : hm_k S f f') (h1 : ¬ S c) (h2 : ¬ S sl) (h3 : ∀ i, i < n → ¬ S (en i)) : CA Γ f' c sl n en E cn rm us := by
  obtain ⟨g1, ⟨g, g2, g3⟩, g4, g5⟩ := h
  exact ⟨hf c _ h1 g1, ⟨g, hf sl _ h2 g2, g3⟩, fun i hi => hf _ _ (h3 i hi) (g4 i hi), g5⟩
def putT (n : Nat) (q : (Nat → EV) × Int32) (rm us : Int32) (b : Int64) (z d w pu : Int32) : (Nat → EV) × Int32 × Int32 :=
  match fstP (fun j => decide ((q.1 j).2.2.1 = 0)) n with
  | none => (q.1, q.2, us)
  | some i => if rm ≤ q.2 then (q.1, q.2, us) else (updE q.1 i (b, z, d, w, pu, us + 1, (q.1 i).2.2.2.2.2.2), q.2 + 1, us + 1)
theorem putC_eq {n : Nat} {E : Nat → EV} {cn rm us : Int32} {b : Int64} {z d w pu : Int32} : putC n E cn rm us b z d w pu = putT n (if cn < rm then (E, cn) else drC n (E, cn)) rm us b z d w pu := rfl
theorem putT_none {n : Nat} {E : Nat → EV} {cn rm us : Int32} {b : Int64} {z d w pu : Int32} (h : ∀ j, j < n → decide ((E j).2.2.1 = 0) = false) : putT n (E, cn) rm us b z d w pu = (E, cn, us) := by
  unfold putT
  rw [fstP_none h]
theorem putT_full {n : Nat} {E : Nat → EV} {cn rm us : Int32} {b : Int64} {z d w pu : Int32} (h : rm ≤ cn) : putT n (E, cn) rm us b z d w pu = (E, cn, us) := by
  unfold putT
  cases fstP (fun j => decide ((((E, cn) : (Nat → EV) × Int32).1 j).2.2.1 = 0)) n with
  | none => rfl
  | some i => exact if_pos h
theorem putT_new {n i : Nat} {E : Nat → EV} {cn rm us : Int32} {b : Int64} {z d w pu : Int32} (hi : i < n) (hp : decide ((E i).2.2.1 = 0) = true) (hj : ∀ j, j < i → decide ((E j).2.2.1 = 0) = false) (h : ¬ rm ≤ cn) : putT n (E, cn) rm us b z d w pu = (updE E i (b, z, d, w, pu, us + 1, (E i).2.2.2.2.2.2), cn + 1, us + 1) := by
  unfold putT
  rw [fstP_some (P := fun j => decide ((E j).2.2.1 = 0)) hp hj hi]
  exact if_neg h
theorem updE_uu {E : Nat → EV} {i : Nat} {x y : EV} : updE (updE E i x) i y = updE E i y := by
  funext j
  unfold updE
  split <;> rfl
theorem drF_CA {Γ : Gm} {f : Hm} {c sl n : Nat} {en : Nat → Nat} {E : Nat → EV} {cn rm us : Int32} (h : CA Γ f c sl n en E cn rm us) : CA Γ (drF f c sl n en E cn rm us) c sl n en (drC n (E, cn)).1 (drC n (E, cn)).2 rm us ∧ hm_fr (cS c n en) f (drF f c sl n en E cn rm us) := by
  unfold drF drC
  cases ho : oldI E n with
  | none => exact ⟨h, hm_fr.rf⟩
  | some o =>
    have hlt := oldI_lt ho
    exact ⟨(h.ent hlt _).hd _ _ _, (hm_fr.rf.up (Or.inr ⟨o, hlt, rfl⟩)).up (Or.inl rfl)⟩
theorem dropK_s {n : Nat} : ∀ {k : Nat} {q : (Nat → EV) × Int32}, dropK n (k + 1) q = dropK n k (drC n q) := rfl
set_option maxHeartbeats 4000000 in
set_option maxRecDepth 100000 in
theorem c_X1_put (Γ : Gm) (l : Launch) (b : Int64) (z d w pu : Int32) (c0 sl n : Nat) (en : Nat → Nat) (E : Nat → EV) (cn rm us : Int32) (f : Hm) (hC : CA Γ f c0 sl n en E cn rm us) (hn : n ≤ 64) : Ct Γ l yX1_put cX1_put 8 (none : Option Jvm.ClassFile.FieldType) 3 0 0 [.ref c0, .long b, .int z, .int d, .int w, .int pu] f (fun v f' => v = none ∧ CA Γ f' c0 sl n en (putC n E cn rm us b z d w pu).1 (putC n E cn rm us b z d w pu).2.1 rm (putC n E cn rm us b z d w pu).2.2 ∧ hm_fr (cS c0 n en) f f') := by
  refine Ct_of (by decide +kernel) (Nat.le_of_ble_eq_true rfl) ?_
  intro p e s m args below meth c hx hb hr hml hown hin hlocks hts hH hO hK ls hl
  have hl : lv_has ls 8 [(0, .ref c0), (1, .long b), (3, .int z), (4, .int d), (5, .int w), (6, .int pu)] := hl
  have hS : va_S (gA Γ) s.heap s.heap [] := va_S.rf
  have tail : ∀ (f1 : Hm) (E1 : Nat → EV) (cn1 : Int32), CA Γ f1 c0 sl n en E1 cn1 rm us → hm_fr (cS c0 n en) f f1 → putC n E cn rm us b z d w pu = putT n (E1, cn1) rm us b z d w pu → ∀ (H : Heap) (locs : List Loc), hm_H Γ f1 H → va_S (gA Γ) s.heap H locs → ∀ ls : Array Slot, lv_has ls 8 [(0, .ref c0), (1, .long b), (3, .int z), (4, .int d), (5, .int w), (6, .int pu)] → W p l e (rmk 3 0 0) s m args below meth c H locs 0 0 (MQ below (hm_Q Γ (fun v f' => v = none ∧ CA Γ f' c0 sl n en (putC n E cn rm us b z d w pu).1 (putC n E cn rm us b z d w pu).2.1 rm (putC n E cn rm us b z d w pu).2.2 ∧ hm_fr (cS c0 n en) f f')) args s 0 0 (gA Γ)) (F0 m 15 ls []) := by
    intro f1 E1 cn1 hC1 hfr hpt H locs hH hS ls hl
    obtain ⟨hc, ⟨g, hsl, hg⟩, hE, hinj⟩ := id hC1
    refine lv_aload_n hx hb dX1_put_15 rfl (lv_at hl 0 rfl) ?_
    refine hm_callV (rest := []) (k := 2) q3_211 q3_213 q1_5 q3_214 q0_9 rfl nm_X1_findFree rfl hx hb hml hown hts hK hO hS hH hl.1 hc (c_X1_findFree Γ l c0 sl n en E1 cn1 rm us f1 hC1 hn) ⟨Nat.le_of_ble_eq_true rfl, Nat.le_of_ble_eq_true rfl⟩ ⟨Nat.le_of_ble_eq_true rfl, Nat.le_of_ble_eq_true rfl⟩ rfl (Nat.le_of_ble_eq_true rfl) dX1_put_16 (fun v_ f_ H locs hp_ hH hS => ?_)
    obtain ⟨hp_, ef_⟩ := hp_
    rw [ef_] at hH
    clear ef_
    rcases hp_ with ⟨rfl, hno⟩ | ⟨i, hi, hpi, hj, rfl⟩
    · refine W.eq (g2 := F0 m 19 ls [.null]) rfl ?_
      refine lv_astoreN (lv' := [(7, .null), (0, .ref c0), (1, .long b), (3, .int z), (4, .int d), (5, .int w), (6, .int pu)]) hx hb dX1_put_19 hl (by decide) rfl (fun ls hl => ?_)
      refine lv_aload_n hx hb dX1_put_21 rfl (lv_at hl 1 rfl) ?_
      refine gf_X1_9 hx hb hts hown hK hH hc rfl dX1_put_22 ?_
      refine lv_aload_n hx hb dX1_put_25 rfl (lv_at hl 1 rfl) ?_
      refine gf_X1_15 hx hb hts hown hK hH hc rfl dX1_put_26 ?_
      refine lv_icmp_ge (tgt := 37) hx hb dX1_put_29 (by decide) (fun c1 => ?_) (fun c1 => ?_)
      · exact hm_vret hx hb hr hlocks hS hH (⟨rfl, by rw [hpt, putT_none hno]; exact ⟨hC1, hfr⟩⟩) (Nat.le_of_ble_eq_true rfl) (Nat.le_of_ble_eq_true rfl) dX1_put_37
      · refine lv_aloadN hx hb dX1_put_32 (lv_at hl 0 rfl) ?_
        refine lv_ifnonnullN hx hb dX1_put_34 ?_
        exact hm_vret hx hb hr hlocks hS hH (⟨rfl, by rw [hpt, putT_none hno]; exact ⟨hC1, hfr⟩⟩) (Nat.le_of_ble_eq_true rfl) (Nat.le_of_ble_eq_true rfl) dX1_put_37
    · refine W.eq (g2 := F0 m 19 ls [.ref (en i)]) rfl ?_
      refine lv_astore (lv' := [(7, .ref (en i)), (0, .ref c0), (1, .long b), (3, .int z), (4, .int d), (5, .int w), (6, .int pu)]) hx hb dX1_put_19 hl (by decide) rfl (fun ls hl => ?_)
      refine lv_aload_n hx hb dX1_put_21 rfl (lv_at hl 1 rfl) ?_
      refine gf_X1_9 hx hb hts hown hK hH hc rfl dX1_put_22 ?_
      refine lv_aload_n hx hb dX1_put_25 rfl (lv_at hl 1 rfl) ?_
      refine gf_X1_15 hx hb hts hown hK hH hc rfl dX1_put_26 ?_
      refine lv_icmp_ge (tgt := 37) hx hb dX1_put_29 (by decide) (fun c2 => ?_) (fun c2 => ?_)
      · exact hm_vret hx hb hr hlocks hS hH (⟨rfl, by rw [hpt, putT_full c2]; exact ⟨hC1, hfr⟩⟩) (Nat.le_of_ble_eq_true rfl) (Nat.le_of_ble_eq_true rfl) dX1_put_37
      · refine lv_aload hx hb dX1_put_32 (lv_at hl 0 rfl) ?_
        refine lv_ifnonnull (tgt := 38) hx hb dX1_put_34 (by decide) ?_
        refine lv_aload hx hb dX1_put_38 (lv_at hl 0 rfl) ?_
        refine lv_lload_n hx hb dX1_put_40 rfl (lv_at hl 2 rfl) ?_
        refine pf_X1_52 hx hb hts hown hK hO hS hH (hE i hi) rfl (Nat.le_of_ble_eq_true rfl) rfl dX1_put_41 (fun H locs hH hS => ?_)
        obtain ⟨f3, ef3⟩ : ∃ zz_, zz_ = hm_up f1 (en i) (eR 2 [.long b, .int ((E1 i).2.1), .int ((E1 i).2.2.1), .int ((E1 i).2.2.2.1), .int ((E1 i).2.2.2.2.1), .int ((E1 i).2.2.2.2.2.1), .int ((E1 i).2.2.2.2.2.2)]) := ⟨_, rfl⟩
        have hH : hm_H Γ f3 H := by rw [ef3]; exact hH
        have h4 : f3 (en i) = some (eR 2 [.long b, .int ((E1 i).2.1), .int ((E1 i).2.2.1), .int ((E1 i).2.2.2.1), .int ((E1 i).2.2.2.2.1), .int ((E1 i).2.2.2.2.2.1), .int ((E1 i).2.2.2.2.2.2)]) := by rw [ef3]; exact hm_us
        have h5 : f3 c0 = some (eR 1 [.ref sl, .int cn1, .int rm, .int us]) := by rw [ef3]; exact (hm_un (hm_ne hc (hE i hi) (fun q => by injection q with q; injection q with q; cases q))).trans hc
        have h6 : f3 sl = some (eN Γ n g) := by rw [ef3]; exact (hm_un (hm_ne hsl (hE i hi) (fun q => by cases q))).trans hsl
        refine lv_aload hx hb dX1_put_44 (lv_at hl 0 rfl) ?_
        refine lv_iload_n hx hb dX1_put_46 rfl (lv_at hl 3 rfl) ?_
        refine pf_X1_56 hx hb hts hown hK hO hS hH h4 rfl (Nat.le_of_ble_eq_true rfl) rfl dX1_put_47 (fun H locs hH hS => ?_)
        obtain ⟨f7, ef7⟩ : ∃ zz_, zz_ = hm_up f3 (en i) (eR 2 [.long b, .int z, .int ((E1 i).2.2.1), .int ((E1 i).2.2.2.1), .int ((E1 i).2.2.2.2.1), .int ((E1 i).2.2.2.2.2.1), .int ((E1 i).2.2.2.2.2.2)]) := ⟨_, rfl⟩
        have hH : hm_H Γ f7 H := by rw [ef7]; exact hH
        have h8 : f7 (en i) = some (eR 2 [.long b, .int z, .int ((E1 i).2.2.1), .int ((E1 i).2.2.2.1), .int ((E1 i).2.2.2.2.1), .int ((E1 i).2.2.2.2.2.1), .int ((E1 i).2.2.2.2.2.2)]) := by rw [ef7]; exact hm_us
        have h9 : f7 c0 = some (eR 1 [.ref sl, .int cn1, .int rm, .int us]) := by rw [ef7]; exact (hm_un (hm_ne h5 h4 (fun q => by injection q with q; injection q with q; cases q))).trans h5
        have h10 : f7 sl = some (eN Γ n g) := by rw [ef7]; exact (hm_un (hm_ne h6 h4 (fun q => by cases q))).trans h6
        refine lv_aload hx hb dX1_put_50 (lv_at hl 0 rfl) ?_
        refine lv_iload hx hb dX1_put_52 (lv_at hl 4 rfl) ?_
        refine pf_X1_59 hx hb hts hown hK hO hS hH h8 rfl (Nat.le_of_ble_eq_true rfl) rfl dX1_put_54 (fun H locs hH hS => ?_)
        obtain ⟨f11, ef11⟩ : ∃ zz_, zz_ = hm_up f7 (en i) (eR 2 [.long b, .int z, .int d, .int ((E1 i).2.2.2.1), .int ((E1 i).2.2.2.2.1), .int ((E1 i).2.2.2.2.2.1), .int ((E1 i).2.2.2.2.2.2)]) := ⟨_, rfl⟩
        have hH : hm_H Γ f11 H := by rw [ef11]; exact hH
        have h12 : f11 (en i) = some (eR 2 [.long b, .int z, .int d, .int ((E1 i).2.2.2.1), .int ((E1 i).2.2.2.2.1), .int ((E1 i).2.2.2.2.2.1), .int ((E1 i).2.2.2.2.2.2)]) := by rw [ef11]; exact hm_us
        have h13 : f11 c0 = some (eR 1 [.ref sl, .int cn1, .int rm, .int us]) := by rw [ef11]; exact (hm_un (hm_ne h9 h8 (fun q => by injection q with q; injection q with q; cases q))).trans h9
        have h14 : f11 sl = some (eN Γ n g) := by rw [ef11]; exact (hm_un (hm_ne h10 h8 (fun q => by cases q))).trans h10
        refine lv_aload hx hb dX1_put_57 (lv_at hl 0 rfl) ?_
        refine lv_iload hx hb dX1_put_59 (lv_at hl 5 rfl) ?_
        refine pf_X1_62 hx hb hts hown hK hO hS hH h12 rfl (Nat.le_of_ble_eq_true rfl) rfl dX1_put_61 (fun H locs hH hS => ?_)
        obtain ⟨f15, ef15⟩ : ∃ zz_, zz_ = hm_up f11 (en i) (eR 2 [.long b, .int z, .int d, .int w, .int ((E1 i).2.2.2.2.1), .int ((E1 i).2.2.2.2.2.1), .int ((E1 i).2.2.2.2.2.2)]) := ⟨_, rfl⟩
        have hH : hm_H Γ f15 H := by rw [ef15]; exact hH
        have h16 : f15 (en i) = some (eR 2 [.long b, .int z, .int d, .int w, .int ((E1 i).2.2.2.2.1), .int ((E1 i).2.2.2.2.2.1), .int ((E1 i).2.2.2.2.2.2)]) := by rw [ef15]; exact hm_us
        have h17 : f15 c0 = some (eR 1 [.ref sl, .int cn1, .int rm, .int us]) := by rw [ef15]; exact (hm_un (hm_ne h13 h12 (fun q => by injection q with q; injection q with q; cases q))).trans h13
        have h18 : f15 sl = some (eN Γ n g) := by rw [ef15]; exact (hm_un (hm_ne h14 h12 (fun q => by cases q))).trans h14
        refine lv_aload hx hb dX1_put_64 (lv_at hl 0 rfl) ?_
        refine lv_iload hx hb dX1_put_66 (lv_at hl 6 rfl) ?_
        refine pf_X1_65 hx hb hts hown hK hO hS hH h16 rfl (Nat.le_of_ble_eq_true rfl) rfl dX1_put_68 (fun H locs hH hS => ?_)
        obtain ⟨f19, ef19⟩ : ∃ zz_, zz_ = hm_up f15 (en i) (eR 2 [.long b, .int z, .int d, .int w, .int pu, .int ((E1 i).2.2.2.2.2.1), .int ((E1 i).2.2.2.2.2.2)]) := ⟨_, rfl⟩
        have hH : hm_H Γ f19 H := by rw [ef19]; exact hH
        have h20 : f19 (en i) = some (eR 2 [.long b, .int z, .int d, .int w, .int pu, .int ((E1 i).2.2.2.2.2.1), .int ((E1 i).2.2.2.2.2.2)]) := by rw [ef19]; exact hm_us
        have h21 : f19 c0 = some (eR 1 [.ref sl, .int cn1, .int rm, .int us]) := by rw [ef19]; exact (hm_un (hm_ne h17 h16 (fun q => by injection q with q; injection q with q; cases q))).trans h17
        have h22 : f19 sl = some (eN Γ n g) := by rw [ef19]; exact (hm_un (hm_ne h18 h16 (fun q => by cases q))).trans h18
        refine lv_aload_n hx hb dX1_put_71 rfl (lv_at hl 1 rfl) ?_
        refine lv_aload hx hb dX1_put_72 (lv_at hl 0 rfl) ?_
        refine hm_callV (rest := []) (k := 1) q3_215 q3_192 q1_5 q3_194 q3_193 rfl nm_X1_use rfl hx hb hml hown hts hK hO hS hH hl.1 h21 (c_X1_use Γ l c0 sl (en i) cn1 rm us (b, z, d, w, pu, (E1 i).2.2.2.2.2.1, (E1 i).2.2.2.2.2.2) f19 h21 h20) ⟨Nat.le_of_ble_eq_true rfl, Nat.le_of_ble_eq_true rfl⟩ ⟨Nat.le_of_ble_eq_true rfl, Nat.le_of_ble_eq_true rfl⟩ rfl (Nat.le_of_ble_eq_true rfl) dX1_put_74 (fun v_ f_ H locs hp_ hH hS => ?_)
        obtain ⟨rfl, ef_⟩ := hp_
        refine W.eq (g2 := F0 m 77 ls []) rfl ?_
        have hc2 : f_ c0 = some (eR 1 [.ref sl, .int cn1, .int rm, .int (us + 1)]) := by rw [ef_]; exact (hm_un (Ne.symm (hC1.ne1 hi))).trans hm_us
        have hxE : f_ (en i) = some (ev (setU (b, z, d, w, pu, (E1 i).2.2.2.2.2.1, (E1 i).2.2.2.2.2.2) (us + 1))) := by rw [ef_]; exact hm_us
        refine lv_aload_n hx hb dX1_put_77 rfl (lv_at hl 1 rfl) ?_
        refine lv_dup hx hb dX1_put_78 rfl ?_
        refine gf_X1_9 hx hb hts hown hK hH hc2 rfl dX1_put_79 ?_
        refine lv_iconst (v := 1) hx hb dX1_put_82 (by decide) ?_
        refine lv_iadd hx hb dX1_put_83 ?_
        refine lv_topi (fun v23 ev23 => ?_)
        refine pf_X1_9 hx hb hts hown hK hO hS hH hc2 rfl (Nat.le_of_ble_eq_true rfl) rfl dX1_put_84 (fun H locs hH hS => ?_)
        obtain ⟨f24, ef24⟩ : ∃ zz_, zz_ = hm_up f_ c0 (eR 1 [.ref sl, .int v23, .int rm, .int ((us + 1))]) := ⟨_, rfl⟩
        have hH : hm_H Γ f24 H := by rw [ef24]; exact hH
        have h25 : f24 c0 = some (eR 1 [.ref sl, .int v23, .int rm, .int ((us + 1))]) := by rw [ef24]; exact hm_us
        have h26 : f24 (en i) = some (ev (setU (b, z, d, w, pu, (E1 i).2.2.2.2.2.1, (E1 i).2.2.2.2.2.2) (us + 1))) := by rw [ef24]; exact (hm_un (hm_ne hxE hc2 (fun q => by injection q with q; injection q with q; cases q))).trans hxE
        subst ef24
        subst ev23
        subst ef_
        subst ef19
        subst ef15
        subst ef11
        subst ef7
        subst ef3
        exact hm_vret hx hb hr hlocks hS hH (⟨rfl, by rw [hpt, putT_new hi hpi hj c2]; simp only [hm_uu]; exact ⟨by have hz := (((hC1.ent hi (b, z, d, w, pu, (E1 i).2.2.2.2.2.1, (E1 i).2.2.2.2.2.2)).hd cn1 rm (us + 1)).ent hi (b, z, d, w, pu, us + 1, (E1 i).2.2.2.2.2.2)).hd (cn1 + 1) rm (us + 1); rw [updE_uu] at hz; exact hz, (((hfr.up (Or.inr ⟨i, hi, rfl⟩)).up (Or.inl rfl)).up (Or.inr ⟨i, hi, rfl⟩)).up (Or.inl rfl)⟩⟩) (Nat.le_of_ble_eq_true rfl) (Nat.le_of_ble_eq_true rfl) dX1_put_87
  obtain ⟨hc, ⟨g, hsl, hg⟩, hE, hinj⟩ := id hC
  refine lv_aload_n hx hb dX1_put_0 rfl (lv_at hl 0 rfl) ?_
  refine gf_X1_9 hx hb hts hown hK hH hc rfl dX1_put_1 ?_
  refine lv_aload_n hx hb dX1_put_4 rfl (lv_at hl 0 rfl) ?_
  refine gf_X1_15 hx hb hts hown hK hH hc rfl dX1_put_5 ?_
  refine lv_icmp_lt (tgt := 15) hx hb dX1_put_8 (by decide) (fun c1 => ?_) (fun c1 => ?_)
  · exact tail f E cn hC hm_fr.rf (by rw [putC_eq, if_pos c1]) s.heap [] hH hS ls (lv_sub hl [0, 1, 2, 3, 4, 5] rfl)
  · refine lv_aload_n hx hb dX1_put_11 rfl (lv_at hl 0 rfl) ?_
    refine hm_callV (rest := []) (k := 2) q3_203 q3_205 q1_5 q3_206 q0_8 rfl nm_X1_dropOldest rfl hx hb hml hown hts hK hO hS hH hl.1 hc (c_X1_dropOldest Γ l c0 sl n en E cn rm us f hC hn) ⟨Nat.le_of_ble_eq_true rfl, Nat.le_of_ble_eq_true rfl⟩ ⟨Nat.le_of_ble_eq_true rfl, Nat.le_of_ble_eq_true rfl⟩ rfl (Nat.le_of_ble_eq_true rfl) dX1_put_12 (fun v_ f_ H locs hp_ hH hS => ?_)
    obtain ⟨rfl, ef_⟩ := hp_
    refine W.eq (g2 := F0 m 15 ls []) rfl ?_
    exact tail f_ (drC n (E, cn)).1 (drC n (E, cn)).2 (by rw [ef_]; exact (drF_CA hC).1) (by rw [ef_]; exact (drF_CA hC).2) (by rw [putC_eq, if_neg c1]) H locs hH hS ls (lv_sub hl [0, 1, 2, 3, 4, 5] rfl)
theorem nI_sub_le {a b : Nat} (h : a ≤ b) (hb : b < 2 ^ 31) : nI a - nI b ≤ 0 := by
  rw [Int32.le_iff_toInt_le, Int32.toInt_sub, nI_toInt (by omega), nI_toInt hb]
  show _ ≤ (0 : Int)
  rw [Int.bmod_eq_of_le (by omega) (by omega)]
  omega
theorem nI_sub_ge {a b : Nat} (h : b ≤ a) (hb : a < 2 ^ 31) : nI a - nI b = nI (a - b) := by
  apply Int32.toInt_inj.mp
  rw [Int32.toInt_sub, nI_toInt hb, nI_toInt (by omega), nI_toInt (by omega), Int.bmod_eq_of_le (by omega) (by omega)]
  omega
set_option maxHeartbeats 4000000 in
set_option maxRecDepth 100000 in
theorem c_X1_fitInto (Γ : Gm) (l : Launch) (c0 sl n : Nat) (en : Nat → Nat) (E : Nat → EV) (cc rr : Nat) (rm us : Int32) (f : Hm) (hC : CA Γ f c0 sl n en E (nI cc) rm us) (hn : n ≤ 64) (hcc : cc ≤ 64) (hrr : rr ≤ 64) : Ct Γ l yX1_fitInto cX1_fitInto 3 (none : Option Jvm.ClassFile.FieldType) 3 0 0 [.ref c0, .int (nI rr)] f (fun v f' => v = none ∧ CA Γ f' c0 sl n en (dropK n (cc - rr) (E, nI cc)).1 (dropK n (cc - rr) (E, nI cc)).2 (nI rr) us ∧ hm_fr (cS c0 n en) f f') := by
  refine Ct_of (by decide +kernel) (Nat.le_of_ble_eq_true rfl) ?_
  intro p e s m args below meth c hx hb hr hml hown hin hlocks hts hH hO hK ls hl
  have hl : lv_has ls 3 [(0, .ref c0), (1, .int (nI rr))] := hl
  have hS : va_S (gA Γ) s.heap s.heap [] := va_S.rf
  have loop : ∀ (k_ : Nat) (t : Int32) (f1 : Hm) (E1 : Nat → EV) (cn1 : Int32), k_ ≤ 64 → ((k_ = 0 ∧ t ≤ 0) ∨ t = nI k_) → CA Γ f1 c0 sl n en E1 cn1 (nI rr) us → hm_fr (cS c0 n en) f f1 → dropK n (cc - rr) (E, nI cc) = dropK n k_ (E1, cn1) → ∀ (H : Heap) (locs : List Loc), hm_H Γ f1 H → va_S (gA Γ) s.heap H locs → ∀ ls : Array Slot, lv_has ls 3 [(2, .int t), (0, .ref c0), (1, .int (nI rr))] → W p l e (rmk 3 0 0) s m args below meth c H locs 0 0 (MQ below (hm_Q Γ (fun v f' => v = none ∧ CA Γ f' c0 sl n en (dropK n (cc - rr) (E, nI cc)).1 (dropK n (cc - rr) (E, nI cc)).2 (nI rr) us ∧ hm_fr (cS c0 n en) f f')) args s 0 0 (gA Γ)) (F0 m 15 ls []) := by
    intro k_
    induction k_ with
    | zero =>
      intro t f1 E1 cn1 _ ht hC1 hfr hdk H locs hH hS ls hl
      have ht0 : t ≤ 0 := by
        rcases ht with ⟨_, h⟩ | h
        · exact h
        · rw [h]; exact Int32.le_refl _
      obtain ⟨hc, ⟨g, hsl, hg⟩, hE, hinj⟩ := id hC1
      refine lv_iload_n hx hb dX1_fitInto_15 rfl (lv_at hl 0 rfl) ?_
      refine lv_if_le (tgt := 29) hx hb dX1_fitInto_16 (by decide) (fun _ => ?_) (fun c1 => absurd (ht0) c1)
      exact hm_vret hx hb hr hlocks hS hH (⟨rfl, by rw [hdk]; exact ⟨hC1, hfr⟩⟩) (Nat.le_of_ble_eq_true rfl) (Nat.le_of_ble_eq_true rfl) dX1_fitInto_29
    | succ k_ ih =>
      intro t f1 E1 cn1 hk ht hC1 hfr hdk H locs hH hS ls hl
      have ht0 : t = nI (k_ + 1) := by
        rcases ht with ⟨h, _⟩ | h
        · omega
        · exact h
      subst ht0
      obtain ⟨hc, ⟨g, hsl, hg⟩, hE, hinj⟩ := id hC1
      refine lv_iload_n hx hb dX1_fitInto_15 rfl (lv_at hl 0 rfl) ?_
      refine lv_if_le (tgt := 29) hx hb dX1_fitInto_16 (by decide) (fun c1 => absurd c1 (fun q => absurd (Int32.le_iff_toInt_le.mp q) (by rw [nI_toInt (by omega)]; show ¬ _ ≤ (0 : Int); omega))) (fun _ => ?_)
      refine lv_aload_n hx hb dX1_fitInto_19 rfl (lv_at hl 1 rfl) ?_
      refine hm_callV (rest := []) (k := 2) q3_203 q3_205 q1_5 q3_206 q0_8 rfl nm_X1_dropOldest rfl hx hb hml hown hts hK hO hS hH hl.1 hc (c_X1_dropOldest Γ l c0 sl n en E1 cn1 (nI rr) us f1 hC1 hn) ⟨Nat.le_of_ble_eq_true rfl, Nat.le_of_ble_eq_true rfl⟩ ⟨Nat.le_of_ble_eq_true rfl, Nat.le_of_ble_eq_true rfl⟩ rfl (Nat.le_of_ble_eq_true rfl) dX1_fitInto_20 (fun v_ f_ H locs hp_ hH hS => ?_)
      obtain ⟨rfl, ef_⟩ := hp_
      subst ef_
      refine W.eq (g2 := F0 m 23 ls []) rfl ?_
      refine lv_iinc (v := nI k_) (lv' := [(2, .int (nI k_)), (0, .ref c0), (1, .int (nI rr))]) hx hb dX1_fitInto_23 hl (k := 0) rfl (by show nI (k_ + 1) + (-1) = nI k_; rw [← nI_1 k_, Int32.add_assoc]; exact Int32.add_zero _) (by decide) rfl (fun ls hl => ?_)
      refine lv_goto (tgt := 15) hx hb dX1_fitInto_26 (by decide) ?_
      exact ih (nI k_) _ _ _ (by omega) (Or.inr rfl) (drF_CA hC1).1 (hfr.tr (drF_CA hC1).2) (hdk.trans dropK_s) H locs hH hS ls (lv_sub hl [0, 1, 2] rfl)
  obtain ⟨hc, ⟨g, hsl, hg⟩, hE, hinj⟩ := id hC
  refine lv_aload_n hx hb dX1_fitInto_0 rfl (lv_at hl 0 rfl) ?_
  refine lv_iload_n hx hb dX1_fitInto_1 rfl (lv_at hl 1 rfl) ?_
  refine pf_X1_15 hx hb hts hown hK hO hS hH hc rfl (Nat.le_of_ble_eq_true rfl) rfl dX1_fitInto_2 (fun H locs hH hS => ?_)
  obtain ⟨f1, ef1⟩ : ∃ zz_, zz_ = hm_up f c0 (eR 1 [.ref sl, .int (nI cc), .int (nI rr), .int us]) := ⟨_, rfl⟩
  have hH : hm_H Γ f1 H := by rw [ef1]; exact hH
  have h2 : f1 c0 = some (eR 1 [.ref sl, .int (nI cc), .int (nI rr), .int us]) := by rw [ef1]; exact hm_us
  refine lv_aload_n hx hb dX1_fitInto_5 rfl (lv_at hl 0 rfl) ?_
  refine gf_X1_9 hx hb hts hown hK hH h2 rfl dX1_fitInto_6 ?_
  refine lv_aload_n hx hb dX1_fitInto_9 rfl (lv_at hl 0 rfl) ?_
  refine gf_X1_15 hx hb hts hown hK hH h2 rfl dX1_fitInto_10 ?_
  refine lv_isub hx hb dX1_fitInto_13 ?_
  refine lv_topi (fun v3 ev3 => ?_)
  refine lv_istore_n (lv' := [(2, .int v3), (0, .ref c0), (1, .int (nI rr))]) hx hb dX1_fitInto_14 rfl hl (by decide) rfl (fun ls hl => ?_)
  subst ev3
  subst ef1
  rcases Nat.le_total cc rr with h | h
  · exact loop 0 _ _ E (nI cc) (by omega) (Or.inl ⟨rfl, nI_sub_le h (by omega)⟩) (hC.hd _ _ _) (hm_fr.rf.up (Or.inl rfl)) (by rw [Nat.sub_eq_zero_of_le h]) H locs hH hS ls (lv_sub hl [0, 1, 2] rfl)
  · exact loop (cc - rr) _ _ E (nI cc) (by omega) (Or.inr (nI_sub_ge h (by omega))) (hC.hd _ _ _) (hm_fr.rf.up (Or.inl rfl)) rfl H locs hH hS ls (lv_sub hl [0, 1, 2] rfl)
set_option maxHeartbeats 4000000 in
set_option maxRecDepth 100000 in
theorem c_X1_become (Γ : Gm) (l : Launch) (c0 sl n : Nat) (en : Nat → Nat) (E : Nat → EV) (cn rm us : Int32) (c1 sl1 : Nat) (en1 : Nat → Nat) (E1 : Nat → EV) (cn1 rm1 us1 : Int32) (f : Hm) (hC : CA Γ f c0 sl n en E cn rm us) (hn : n ≤ 64) (hC1 : CA Γ f c1 sl1 n en1 E1 cn1 rm1 us1) (hne_c1_c0 : c1 ≠ c0) (hdis : ∀ i j, i < n → j < n → en1 j ≠ en i) : Ct Γ l yX1_become cX1_become 3 (none : Option Jvm.ClassFile.FieldType) 2 0 0 [.ref c0, .ref c1] f (fun v f' => v = none ∧ CA Γ f' c0 sl n en E1 cn1 rm1 us1 ∧ hm_fr (cS c0 n en) f f') := by
  refine Ct_of (by decide +kernel) (Nat.le_of_ble_eq_true rfl) ?_
  intro p e s m args below meth c hx hb hr hml hown hin hlocks hts hH hO hK ls hl
  have hl : lv_has ls 3 [(0, .ref c0), (1, .ref c1)] := hl
  have hS : va_S (gA Γ) s.heap s.heap [] := va_S.rf
  have hS1 : ¬ cS c0 n en c1 ∧ ¬ cS c0 n en sl1 ∧ ∀ j, j < n → ¬ cS c0 n en (en1 j) := by
    obtain ⟨g1, hg1, -⟩ := hC1.2.1
    refine ⟨?_, ?_, ?_⟩
    · rintro (q | ⟨i, hi, q⟩)
      · exact hne_c1_c0 q
      · exact hm_ne hC1.1 (hC.2.2.1 i hi) (fun q => by injection q with q; injection q with q; cases q) q
    · rintro (q | ⟨i, hi, q⟩)
      · exact hm_ne hg1 hC.1 (fun q => by cases q) q
      · exact hm_ne hg1 (hC.2.2.1 i hi) (fun q => by cases q) q
    · rintro j hj (q | ⟨i, hi, q⟩)
      · exact hm_ne (hC1.2.2.1 j hj) hC.1 (fun q => by injection q with q; injection q with q; cases q) q
      · exact hdis i j hi hj q
  have loop : ∀ (k_ i : Nat) (f1 : Hm), i + k_ = n → CA Γ f1 c0 sl n en (mixE E1 E i) cn1 rm1 us1 → hm_fr (cS c0 n en) f f1 → ∀ (H : Heap) (locs : List Loc), hm_H Γ f1 H → va_S (gA Γ) s.heap H locs → ∀ ls : Array Slot, lv_has ls 3 [(2, .int (nI i)), (0, .ref c0), (1, .ref c1)] → W p l e (rmk 2 0 0) s m args below meth c H locs 0 0 (MQ below (hm_Q Γ (fun v f' => v = none ∧ CA Γ f' c0 sl n en E1 cn1 rm1 us1 ∧ hm_fr (cS c0 n en) f f')) args s 0 0 (gA Γ)) (F0 m 26 ls []) := by
    intro k_
    induction k_ with
    | zero =>
      intro i f1 hin_ hCa hfr H locs hH hS ls hl
      have hi : i = n := by omega
      subst hi
      have hCb := hC1.kept hfr hS1.1 hS1.2.1 hS1.2.2
      obtain ⟨hc, ⟨g, hsl, hg⟩, hE, hinj⟩ := id hCa
      obtain ⟨hcb, ⟨gb, hslb, hgb⟩, hEb, hinjb⟩ := id hCb
      refine lv_iload_n hx hb dX1_become_26 rfl (lv_at hl 0 rfl) ?_
      refine lv_aload_n hx hb dX1_become_27 rfl (lv_at hl 1 rfl) ?_
      refine gf_X1_29 hx hb hts hown hK hH hc rfl dX1_become_28 ?_
      refine hm_alen (v := nI i) hx hb hK hH 3 hsl rfl rfl dX1_become_31 ?_
      refine lv_icmp_ge (tgt := 65) hx hb dX1_become_32 (by decide) (fun _ => ?_) (fun c1 => absurd (nI_le (Nat.le_refl _) (by omega)) c1)
      exact hm_vret hx hb hr hlocks hS hH (⟨rfl, hCa.ext (fun j hj => mixE_n hj), hfr⟩) (Nat.le_of_ble_eq_true rfl) (Nat.le_of_ble_eq_true rfl) dX1_become_65
    | succ k_ ih =>
      intro i f1 hin_ hCa hfr H locs hH hS ls hl
      have hi : i < n := by omega
      have hCb := hC1.kept hfr hS1.1 hS1.2.1 hS1.2.2
      obtain ⟨hc, ⟨g, hsl, hg⟩, hE, hinj⟩ := id hCa
      obtain ⟨hcb, ⟨gb, hslb, hgb⟩, hEb, hinjb⟩ := id hCb
      have hei := hE i hi
      have heb := hEb i hi
      refine lv_iload_n hx hb dX1_become_26 rfl (lv_at hl 0 rfl) ?_
      refine lv_aload_n hx hb dX1_become_27 rfl (lv_at hl 1 rfl) ?_
      refine gf_X1_29 hx hb hts hown hK hH hc rfl dX1_become_28 ?_
      refine hm_alen (v := nI n) hx hb hK hH 3 hsl rfl rfl dX1_become_31 ?_
      refine lv_icmp_ge (tgt := 65) hx hb dX1_become_32 (by decide) (fun c1 => absurd c1 (nI_ge hi (by omega))) (fun _ => ?_)
      refine lv_iload_n hx hb dX1_become_35 rfl (lv_at hl 0 rfl) ?_
      refine lv_aload_n hx hb dX1_become_36 rfl (lv_at hl 2 rfl) ?_
      refine gf_X1_29 hx hb hts hown hK hH hcb rfl dX1_become_37 ?_
      refine hm_alen (v := nI n) hx hb hK hH 3 hslb rfl rfl dX1_become_40 ?_
      refine lv_icmp_ge (tgt := 65) hx hb dX1_become_41 (by decide) (fun c2 => absurd c2 (nI_ge hi (by omega))) (fun _ => ?_)
      refine lv_aload_n hx hb dX1_become_44 rfl (lv_at hl 1 rfl) ?_
      refine gf_X1_29 hx hb hts hown hK hH hc rfl dX1_become_45 ?_
      refine lv_iload_n hx hb dX1_become_48 rfl (lv_at hl 0 rfl) ?_
      refine hm_naldE hx hb hK hH hsl (vp_in_nI hi (by omega)) dX1_become_49 ?_
      refine W.eq (g2 := F0 m 50 ls (.ref (en i) :: [])) (congrArg (fun x_ => F0 m 50 ls (x_ :: [])) (by rw [nI_clamp (by omega), hg i hi]; rfl)) ?_
      refine lv_aload_n hx hb dX1_become_50 rfl (lv_at hl 2 rfl) ?_
      refine gf_X1_29 hx hb hts hown hK hH hcb rfl dX1_become_51 ?_
      refine lv_iload_n hx hb dX1_become_54 rfl (lv_at hl 0 rfl) ?_
      refine hm_naldE hx hb hK hH hslb (vp_in_nI hi (by omega)) dX1_become_55 ?_
      refine W.eq (g2 := F0 m 56 ls (.ref (en1 i) :: [.ref (en i)])) (congrArg (fun x_ => F0 m 56 ls (x_ :: [.ref (en i)])) (by rw [nI_clamp (by omega), hgb i hi]; rfl)) ?_
      refine hm_callV (rest := []) (k := 1) q3_172 q3_173 q1_7 q3_175 q3_174 rfl nm_X2_become rfl hx hb hml hown hts hK hO hS hH hl.1 hei (c_X2_become Γ l (en i) (en1 i) (mixE E1 E i i) (E1 i) f1 (hdis i i hi hi) hei heb) ⟨Nat.le_of_ble_eq_true rfl, Nat.le_of_ble_eq_true rfl⟩ ⟨Nat.le_of_ble_eq_true rfl, Nat.le_of_ble_eq_true rfl⟩ rfl (Nat.le_of_ble_eq_true rfl) dX1_become_56 (fun v_ f_ H locs hp_ hH hS => ?_)
      obtain ⟨rfl, ef_⟩ := hp_
      subst ef_
      refine W.eq (g2 := F0 m 59 ls []) rfl ?_
      refine lv_iinc (v := (nI (i + 1))) (lv' := [(2, .int ((nI (i + 1)))), (0, .ref c0), (1, .ref c1)]) hx hb dX1_become_59 hl (k := 0) rfl (nI_1 i) (by decide) rfl (fun ls hl => ?_)
      refine lv_goto (tgt := 26) hx hb dX1_become_62 (by decide) ?_
      have hC2 := hCa.ent hi (E1 i)
      rw [mixE_s (A := E1)] at hC2
      exact ih (i + 1) _ (by omega) hC2 (hfr.up (Or.inr ⟨i, hi, rfl⟩)) H locs hH hS ls (lv_sub hl [0, 1, 2] rfl)
  obtain ⟨hc, ⟨g, hsl, hg⟩, hE, hinj⟩ := id hC
  obtain ⟨hcb, -⟩ := id hC1
  refine lv_aload_n hx hb dX1_become_0 rfl (lv_at hl 0 rfl) ?_
  refine lv_aload_n hx hb dX1_become_1 rfl (lv_at hl 1 rfl) ?_
  refine gf_X1_9 hx hb hts hown hK hH hcb rfl dX1_become_2 ?_
  refine pf_X1_9 hx hb hts hown hK hO hS hH hc rfl (Nat.le_of_ble_eq_true rfl) rfl dX1_become_5 (fun H locs hH hS => ?_)
  obtain ⟨f1, ef1⟩ : ∃ zz_, zz_ = hm_up f c0 (eR 1 [.ref sl, .int cn1, .int rm, .int us]) := ⟨_, rfl⟩
  have hH : hm_H Γ f1 H := by rw [ef1]; exact hH
  have h2 : f1 c0 = some (eR 1 [.ref sl, .int cn1, .int rm, .int us]) := by rw [ef1]; exact hm_us
  have h3 : f1 c1 = some (eR 1 [.ref sl1, .int cn1, .int rm1, .int us1]) := by rw [ef1]; exact (hm_un hne_c1_c0).trans hcb
  refine lv_aload_n hx hb dX1_become_8 rfl (lv_at hl 0 rfl) ?_
  refine lv_aload_n hx hb dX1_become_9 rfl (lv_at hl 1 rfl) ?_
  refine gf_X1_15 hx hb hts hown hK hH h3 rfl dX1_become_10 ?_
  refine pf_X1_15 hx hb hts hown hK hO hS hH h2 rfl (Nat.le_of_ble_eq_true rfl) rfl dX1_become_13 (fun H locs hH hS => ?_)
  obtain ⟨f4, ef4⟩ : ∃ zz_, zz_ = hm_up f1 c0 (eR 1 [.ref sl, .int cn1, .int rm1, .int us]) := ⟨_, rfl⟩
  have hH : hm_H Γ f4 H := by rw [ef4]; exact hH
  have h5 : f4 c0 = some (eR 1 [.ref sl, .int cn1, .int rm1, .int us]) := by rw [ef4]; exact hm_us
  have h6 : f4 c1 = some (eR 1 [.ref sl1, .int cn1, .int rm1, .int us1]) := by rw [ef4]; exact (hm_un hne_c1_c0).trans h3
  refine lv_aload_n hx hb dX1_become_16 rfl (lv_at hl 0 rfl) ?_
  refine lv_aload_n hx hb dX1_become_17 rfl (lv_at hl 1 rfl) ?_
  refine gf_X1_18 hx hb hts hown hK hH h6 rfl dX1_become_18 ?_
  refine pf_X1_18 hx hb hts hown hK hO hS hH h5 rfl (Nat.le_of_ble_eq_true rfl) rfl dX1_become_21 (fun H locs hH hS => ?_)
  obtain ⟨f7, ef7⟩ : ∃ zz_, zz_ = hm_up f4 c0 (eR 1 [.ref sl, .int cn1, .int rm1, .int us1]) := ⟨_, rfl⟩
  have hH : hm_H Γ f7 H := by rw [ef7]; exact hH
  have h8 : f7 c0 = some (eR 1 [.ref sl, .int cn1, .int rm1, .int us1]) := by rw [ef7]; exact hm_us
  have h9 : f7 c1 = some (eR 1 [.ref sl1, .int cn1, .int rm1, .int us1]) := by rw [ef7]; exact (hm_un hne_c1_c0).trans h6
  refine lv_iconst (v := 0) hx hb dX1_become_24 (by decide) ?_
  refine lv_istore_n (lv' := [(2, .int 0), (0, .ref c0), (1, .ref c1)]) hx hb dX1_become_25 rfl hl (by decide) rfl (fun ls hl => ?_)
  subst ef7
  subst ef4
  subst ef1
  exact loop n 0 _ (by omega) (by simp only [hm_uu]; rw [mixE_0]; exact hC.hd _ _ _) (by simp only [hm_uu]; exact hm_fr.rf.up (Or.inl rfl)) H locs hH hS ls (lv_sub hl [0, 1, 2] rfl)
