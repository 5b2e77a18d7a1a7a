section
variable {p : Program} {l : Launch} {e : Env} {R : Room} {s : State} {m : MethodId} {args : Array Value} {below : List Frame} {meth : Method} {c : Code}
variable {dC : Nat → ClassId} {dI : Nat → Nat → Nat} {b : Nat → Nat} {k : Nat → ClassId} {A : Nat → Prop}
def C_X4_isText_b16_s (b : Nat → Nat) (k : Nat → ClassId) (Q : Int32 → cS → Prop) (K16 : Int32 → Int32 → Int32 → Int32 → cS → Prop) (x1 : Int32) (x3 : Int32) (x4 : Int32) (x5 : Int32) (σ : cS) : Prop :=
 (x4 ≤ x5 → Q (1 : Int32) σ) ∧ (¬ x4 ≤ x5 → vp_in ((x1 * (10 : Int32)) + x5) 1920 ∧ vp_in (x3 + x5) 120 ∧ ((σ.2.1 1 ((x1 * (10 : Int32)) + x5).toNatClampNeg) = (σ.2.1 0 (x3 + x5).toNatClampNeg) → ∀ v46 : Int32, v46 = x5 + (1 : Int32) → K16 x1 x3 x4 v46 σ) ∧ (¬ (σ.2.1 1 ((x1 * (10 : Int32)) + x5).toNatClampNeg) = (σ.2.1 0 (x3 + x5).toNatClampNeg) → Q (0 : Int32) σ))
def C_X4_isText_b16_f (b : Nat → Nat) (k : Nat → ClassId) (Q : Int32 → cS → Prop) : (Int32 × Int32 × Int32 × Int32 × cS → Prop) → Int32 × Int32 × Int32 × Int32 × cS → Prop :=
 fun K z => C_X4_isText_b16_s b k Q (fun x1 x3 x4 x5 σ => K (x1, x3, x4, x5, σ)) z.1 z.2.1 z.2.2.1 z.2.2.2.1 z.2.2.2.2
def C_X4_isText_b16 (b : Nat → Nat) (k : Nat → ClassId) (Q : Int32 → cS → Prop) (x1 : Int32) (x3 : Int32) (x4 : Int32) (x5 : Int32) (σ : cS) : Prop := ∃ n, fx (C_X4_isText_b16_f b k Q ) n (x1, x3, x4, x5, σ)
set_option maxHeartbeats 4000000 in
set_option maxRecDepth 100000 in
theorem cB_X4_isText_16 {Q : Int32 → cS → Prop} (X : CallFix p m c cX4_isText 6 s args wsX4_isText RX4) (hr : meth.sig.returnType = (some .boolean)) (hlk : meth.locks = false) (hR : 0 ≤ R.frames ∧ 0 ≤ R.locals) (hK : cK dC dI k s) (hA : ∀ q, s.heap.size ≤ q → A q) : ∀ (n : Nat) (x1 : Int32) (x3 : Int32) (x4 : Int32) (x5 : Int32) (σ : cS) (H : Heap) (locs : List Loc) (ls : Array Slot), lv_has ls 6 [(0, .ref (b 2)), (1, .int x1), (2, .ref (b 1)), (3, .int x3), (4, .int x4), (5, .int x5)] → cO dC dI b k A s.heap σ H locs → fx (C_X4_isText_b16_f b k Q ) n (x1, x3, x4, x5, σ) → W p l e R s m args below meth c H locs 0 0 (MQ below (va_Qi Q (cAt dC dI A b k) A) args s 0 0 A) (F0 m 16 ls []) := by
  intro n
  induction n with
  | zero => intro x1 x3 x4 x5 σ H locs ls hl hO hw; exact False.elim hw
  | succ n k16 =>
    intro x1 x3 x4 x5 σ H locs ls hl hO hw
    have hw : C_X4_isText_b16_s b k Q (fun x1 x3 x4 x5 σ => fx (C_X4_isText_b16_f b k Q ) n (x1, x3, x4, x5, σ)) x1 x3 x4 x5 σ := hw
    unfold C_X4_isText_b16_s at hw
    refine lv_iload X.1 X.2.1 dX4_isText_16 (lv_at hl 5 rfl) ?_
    refine lv_iload X.1 X.2.1 dX4_isText_18 (lv_at hl 4 rfl) ?_
    refine lv_icmp_ge (tgt := 52) X.1 X.2.1 dX4_isText_20 rfl (fun hc9 => ?_) (fun hc9 => ?_)
    · have hw := hw.1 hc9
      refine lv_iconst (v := 1) X.1 X.2.1 dX4_isText_52 (by decide) ?_
      exact W.zret (v := (1 : Int32)) X.1 X.2.1 hr rfl (fun t ht hW => ⟨⟨(1 : Int32), σ, rfl, hw, cO_end hO hK ht hW⟩, hO.2.2.F ht⟩) hO.2.2.2.2 dX4_isText_53 hlk
    · have hw := hw.2 hc9
      refine lv_aload_n X.1 X.2.1 dX4_isText_23 rfl (lv_at hl 0 rfl) ?_
      refine cf_X4_letters X fX4_X4_letters hK hO dX4_isText_24 ?_
      refine lv_iload_n X.1 X.2.1 dX4_isText_27 rfl (lv_at hl 1 rfl) ?_
      refine lv_bipush (v := 10) X.1 X.2.1 dX4_isText_28 (by decide) ?_
      refine lv_imul X.1 X.2.1 dX4_isText_30 ?_
      refine lv_iload X.1 X.2.1 dX4_isText_31 (lv_at hl 5 rfl) ?_
      refine lv_iadd X.1 X.2.1 dX4_isText_33 ?_
      obtain ⟨g34, hw⟩ := hw
      refine ca_3 X.1 X.2.1 hK hO g34 dX4_isText_34 ?_
      refine lv_aload_n X.1 X.2.1 dX4_isText_35 rfl (lv_at hl 2 rfl) ?_
      refine lv_iload_n X.1 X.2.1 dX4_isText_36 rfl (lv_at hl 3 rfl) ?_
      refine lv_iload X.1 X.2.1 dX4_isText_37 (lv_at hl 5 rfl) ?_
      refine lv_iadd X.1 X.2.1 dX4_isText_39 ?_
      obtain ⟨g40, hw⟩ := hw
      refine ca_1 X.1 X.2.1 hK hO g40 dX4_isText_40 ?_
      refine lv_icmp_eq (tgt := 46) X.1 X.2.1 dX4_isText_41 rfl (fun hc9 => ?_) (fun hc9 => ?_)
      · have hw := hw.1 hc9
        obtain ⟨v46, e46⟩ : ∃ z, z = x5 + (1 : Int32) := ⟨_, rfl⟩
        have hw := hw v46 e46
        refine lv_iinc (lv' := [(5, .int v46), (0, .ref (b 2)), (1, .int x1), (2, .ref (b 1)), (3, .int x3), (4, .int x4)]) (k := 5) (v := v46) X.1 X.2.1 dX4_isText_46 hl rfl (by rw [e46]; rfl) (by decide) rfl (fun ls hl => ?_)
        refine lv_goto (tgt := 16) X.1 X.2.1 dX4_isText_49 rfl ?_
        exact k16 x1 x3 x4 v46 σ H locs ls (lv_sub hl [1, 2, 3, 4, 5, 0] rfl) hO hw
      · have hw := hw.2 hc9
        refine lv_iconst (v := 0) X.1 X.2.1 dX4_isText_44 (by decide) ?_
        exact W.zret (v := (0 : Int32)) X.1 X.2.1 hr rfl (fun t ht hW => ⟨⟨(0 : Int32), σ, rfl, hw, cO_end hO hK ht hW⟩, hO.2.2.F ht⟩) hO.2.2.2.2 dX4_isText_45 hlk
def C_X4_isText_b0 (b : Nat → Nat) (k : Nat → ClassId) (Q : Int32 → cS → Prop) (x1 : Int32) (x3 : Int32) (x4 : Int32) (σ : cS) : Prop :=
 vp_in x1 192 ∧ ((σ.2.1 2 x1.toNatClampNeg) = x4 → C_X4_isText_b16 b k Q x1 x3 x4 (0 : Int32) σ) ∧ (¬ (σ.2.1 2 x1.toNatClampNeg) = x4 → Q (0 : Int32) σ)
set_option maxHeartbeats 4000000 in
set_option maxRecDepth 100000 in
theorem cB_X4_isText_0 {Q : Int32 → cS → Prop} (X : CallFix p m c cX4_isText 6 s args wsX4_isText RX4) (hr : meth.sig.returnType = (some .boolean)) (hlk : meth.locks = false) (hR : 0 ≤ R.frames ∧ 0 ≤ R.locals) (hK : cK dC dI k s) (hA : ∀ q, s.heap.size ≤ q → A q) (x1 : Int32) (x3 : Int32) (x4 : Int32) (σ : cS) (H : Heap) (locs : List Loc) (ls : Array Slot) (hl : lv_has ls 6 [(0, .ref (b 2)), (1, .int x1), (2, .ref (b 1)), (3, .int x3), (4, .int x4)]) (hO : cO dC dI b k A s.heap σ H locs) (hw : C_X4_isText_b0 b k Q x1 x3 x4 σ) : W p l e R s m args below meth c H locs 0 0 (MQ below (va_Qi Q (cAt dC dI A b k) A) args s 0 0 A) (F0 m 0 ls []) := by
  unfold C_X4_isText_b0 at hw
  refine lv_aload_n X.1 X.2.1 dX4_isText_0 rfl (lv_at hl 0 rfl) ?_
  refine cf_X4_lengths X fX4_X4_lengths hK hO dX4_isText_1 ?_
  refine lv_iload_n X.1 X.2.1 dX4_isText_4 rfl (lv_at hl 1 rfl) ?_
  obtain ⟨g5, hw⟩ := hw
  refine ca_4 X.1 X.2.1 hK hO g5 dX4_isText_5 ?_
  refine lv_iload X.1 X.2.1 dX4_isText_6 (lv_at hl 4 rfl) ?_
  refine lv_icmp_eq (tgt := 13) X.1 X.2.1 dX4_isText_8 rfl (fun hc9 => ?_) (fun hc9 => ?_)
  · have hw := hw.1 hc9
    refine lv_iconst (v := 0) X.1 X.2.1 dX4_isText_13 (by decide) ?_
    refine lv_istore (lv' := [(5, .int (0 : Int32)), (0, .ref (b 2)), (1, .int x1), (2, .ref (b 1)), (3, .int x3), (4, .int x4)]) X.1 X.2.1 dX4_isText_14 hl (by decide) rfl (fun ls hl => ?_)
    obtain ⟨n, hw⟩ := hw
    exact cB_X4_isText_16 X hr hlk hR hK hA n x1 x3 x4 (0 : Int32) σ H locs ls (lv_sub hl [1, 2, 3, 4, 5, 0] rfl) hO hw
  · have hw := hw.2 hc9
    refine lv_iconst (v := 0) X.1 X.2.1 dX4_isText_11 (by decide) ?_
    exact W.zret (v := (0 : Int32)) X.1 X.2.1 hr rfl (fun t ht hW => ⟨⟨(0 : Int32), σ, rfl, hw, cO_end hO hK ht hW⟩, hO.2.2.F ht⟩) hO.2.2.2.2 dX4_isText_12 hlk
def C_X4_isText_w (b : Nat → Nat) (k : Nat → ClassId) (Q : Int32 → cS → Prop) (x1 : Int32) (x3 : Int32) (x4 : Int32) (σ : cS) : Prop := C_X4_isText_b0 b k Q x1 x3 x4 σ
abbrev rmX4_isText : Room := { frames := 0, cells := 0, slots := 0, locals := 0 }
set_option maxHeartbeats 4000000 in
set_option maxRecDepth 100000 in
theorem cC_X4_isText (l : Launch) (dC : Nat → ClassId) (dI : Nat → Nat → Nat) (b : Nat → Nat) (k : Nat → ClassId) (σ : cS) (sz : Nat) (x1 : Int32) (x3 : Int32) (x4 : Int32) (Q : Int32 → cS → Prop) (hw : C_X4_isText_w b k Q x1 x3 x4 σ) : Met l yX4_isText wsX4_isText rmX4_isText (cPc dC dI b k sz σ [.ref (b 2), .int x1, .ref (b 1), .int x3, .int x4]) (va_Qi Q (cAt dC dI (va_A (cCells b k σ) sz) b k) (va_A (cCells b k σ) sz)) 0 0 (va_A (cCells b k σ) sz) := by
  refine Met.ofW (cc := cX4_isText) (maxL := 6) (ret := (some .boolean)) (by decide) rfl ?_
  intro p e s m args below meth c s₁ B hml hv
  obtain ⟨hargs, hsz, hP, hK, hD0⟩ := hv
  have hts := atoms_spec (ws := wsX4_isText) B.pre
  have hown : s.vm.findClass RX4 = some m.cls := findClass_of_methodNamed B.named
  subst hsz
  subst hargs
  have hD := hD0.self (sz := s.heap.size)
  generalize hAe : va_A (cCells b k σ) s.heap.size = A at hD ⊢
  have hA : ∀ q : Nat, s.heap.size ≤ q → A q := fun q h => by rw [← hAe]; exact Or.inr h
  have hl := lv_entry ([.ref (b 2), .int x1, .ref (b 1), .int x3, .int x4]) (n := 6) (Nat.le_of_ble_eq_true rfl)
  rw [lg_entry_eq]
  generalize (lg_sl ([.ref (b 2), .int x1, .ref (b 1), .int x3, .int x4]) ++ List.replicate (6 - (lg_sl ([.ref (b 2), .int x1, .ref (b 1), .int x3, .int x4])).length) Slot.unset).toArray = ls at hl ⊢
  have hl : lv_has ls 6 [(0, .ref (b 2)), (1, .int x1), (2, .ref (b 1)), (3, .int x3), (4, .int x4)] := hl
  unfold C_X4_isText_w at hw
  exact cB_X4_isText_0 ⟨B.exec, B.bytes, hml, hown, hts⟩ B.returns B.notSynchronized ⟨Nat.le_of_ble_eq_true rfl, Nat.le_of_ble_eq_true rfl⟩ hK hA x1 x3 x4 σ s.heap [] ls (lv_sub hl [0, 1, 2, 3, 4] rfl) ⟨hP, hD, va_S.rf⟩ hw
def C_X4_numberOf_b48_s (b : Nat → Nat) (k : Nat → ClassId) (Q : Int32 → cS → Prop) (K48 : Int32 → Int32 → Int32 → cS → Prop) (x2 : Int32) (x3 : Int32) (x4 : Int32) (σ : cS) : Prop :=
 (x3 ≤ x4 → vp_in (σ.1 1) 192 ∧ ∀ t91 : cS, t91 = sA σ 2 (σ.1 1) x3 → ∀ t99 : cS, t99 = sI t91 1 ((t91.1 1) + (1 : Int32)) → Q ((t99.1 1) - (1 : Int32)) t99) ∧ (¬ x3 ≤ x4 → vp_in (x2 + x4) 120 ∧ vp_in (((σ.1 1) * (10 : Int32)) + x4) 1920 ∧ ∀ t75 : cS, t75 = sA σ 1 (((σ.1 1) * (10 : Int32)) + x4) (vp_nar .byte ((σ.2.1 0 (x2 + x4).toNatClampNeg).toInt8.toInt32)) → ∀ v76 : Int32, v76 = x4 + (1 : Int32) → K48 x2 x3 v76 t75)
def C_X4_numberOf_b48_f (b : Nat → Nat) (k : Nat → ClassId) (Q : Int32 → cS → Prop) : (Int32 × Int32 × Int32 × cS → Prop) → Int32 × Int32 × Int32 × cS → Prop :=
 fun K z => C_X4_numberOf_b48_s b k Q (fun x2 x3 x4 σ => K (x2, x3, x4, σ)) z.1 z.2.1 z.2.2.1 z.2.2.2
def C_X4_numberOf_b48 (b : Nat → Nat) (k : Nat → ClassId) (Q : Int32 → cS → Prop) (x2 : Int32) (x3 : Int32) (x4 : Int32) (σ : cS) : Prop := ∃ n, fx (C_X4_numberOf_b48_f b k Q ) n (x2, x3, x4, σ)
set_option maxHeartbeats 4000000 in
set_option maxRecDepth 100000 in
theorem cB_X4_numberOf_48 {Q : Int32 → cS → Prop} (X : CallFix p m c cX4_numberOf 5 s args wsX4_numberOf RX4) (hr : meth.sig.returnType = (some .int)) (hlk : meth.locks = false) (hR : 1 ≤ R.frames ∧ 25 ≤ R.locals) (hK : cK dC dI k s) (hA : ∀ q, s.heap.size ≤ q → A q) : ∀ (n : Nat) (x2 : Int32) (x3 : Int32) (x4 : Int32) (σ : cS) (H : Heap) (locs : List Loc) (ls : Array Slot), lv_has ls 5 [(0, .ref (b 2)), (1, .ref (b 1)), (2, .int x2), (3, .int x3), (4, .int x4)] → cO dC dI b k A s.heap σ H locs → fx (C_X4_numberOf_b48_f b k Q ) n (x2, x3, x4, σ) → W p l e R s m args below meth c H locs 0 0 (MQ below (va_Qi Q (cAt dC dI A b k) A) args s 0 0 A) (F0 m 48 ls []) := by
  intro n
  induction n with
  | zero => intro x2 x3 x4 σ H locs ls hl hO hw; exact False.elim hw
  | succ n k48 =>
    intro x2 x3 x4 σ H locs ls hl hO hw
    have hw : C_X4_numberOf_b48_s b k Q (fun x2 x3 x4 σ => fx (C_X4_numberOf_b48_f b k Q ) n (x2, x3, x4, σ)) x2 x3 x4 σ := hw
    unfold C_X4_numberOf_b48_s at hw
    refine lv_iload X.1 X.2.1 dX4_numberOf_48 (lv_at hl 4 rfl) ?_
    refine lv_iload_n X.1 X.2.1 dX4_numberOf_50 rfl (lv_at hl 3 rfl) ?_
    refine lv_icmp_ge (tgt := 82) X.1 X.2.1 dX4_numberOf_51 rfl (fun hc9 => ?_) (fun hc9 => ?_)
    · have hw := hw.1 hc9
      refine lv_aload_n X.1 X.2.1 dX4_numberOf_82 rfl (lv_at hl 0 rfl) ?_
      refine cf_X4_lengths X fX4_X4_lengths hK hO dX4_numberOf_83 ?_
      refine lv_aload_n X.1 X.2.1 dX4_numberOf_86 rfl (lv_at hl 0 rfl) ?_
      refine cf_X4_size X fX4_X4_size hK hO dX4_numberOf_87 ?_
      refine lv_iload_n X.1 X.2.1 dX4_numberOf_90 rfl (lv_at hl 3 rfl) ?_
      obtain ⟨g91, hw⟩ := hw
      refine cs_4 X.1 X.2.1 hK hO g91 dX4_numberOf_91 (fun H locs hO => ?_)
      obtain ⟨t91, e91⟩ : ∃ z, z = sA σ 2 (σ.1 1) x3 := ⟨_, rfl⟩
      have hw := hw t91 e91
      rw [← e91] at hO
      refine lv_aload_n X.1 X.2.1 dX4_numberOf_92 rfl (lv_at hl 0 rfl) ?_
      refine lv_dup X.1 X.2.1 dX4_numberOf_93 rfl ?_
      refine cf_X4_size X fX4_X4_size hK hO dX4_numberOf_94 ?_
      refine lv_iconst (v := 1) X.1 X.2.1 dX4_numberOf_97 (by decide) ?_
      refine lv_iadd X.1 X.2.1 dX4_numberOf_98 ?_
      refine cp_X4_size X fX4_X4_size hK hO dX4_numberOf_99 (fun H locs hO => ?_)
      obtain ⟨t99, e99⟩ : ∃ z, z = sI t91 1 ((t91.1 1) + (1 : Int32)) := ⟨_, rfl⟩
      have hw := hw t99 e99
      rw [← e99] at hO
      refine lv_aload_n X.1 X.2.1 dX4_numberOf_102 rfl (lv_at hl 0 rfl) ?_
      refine cf_X4_size X fX4_X4_size hK hO dX4_numberOf_103 ?_
      refine lv_iconst (v := 1) X.1 X.2.1 dX4_numberOf_106 (by decide) ?_
      refine lv_isub X.1 X.2.1 dX4_numberOf_107 ?_
      exact W.iret (v := ((t99.1 1) - (1 : Int32))) X.1 X.2.1 hr (fun t ht hW => ⟨⟨((t99.1 1) - (1 : Int32)), t99, rfl, hw, cO_end hO hK ht hW⟩, hO.2.2.F ht⟩) hO.2.2.2.2 dX4_numberOf_108 hlk
    · have hw := hw.2 hc9
      refine lv_aload_n X.1 X.2.1 dX4_numberOf_54 rfl (lv_at hl 0 rfl) ?_
      refine cf_X4_letters X fX4_X4_letters hK hO dX4_numberOf_55 ?_
      refine lv_aload_n X.1 X.2.1 dX4_numberOf_58 rfl (lv_at hl 0 rfl) ?_
      refine cf_X4_size X fX4_X4_size hK hO dX4_numberOf_59 ?_
      refine lv_bipush (v := 10) X.1 X.2.1 dX4_numberOf_62 (by decide) ?_
      refine lv_imul X.1 X.2.1 dX4_numberOf_64 ?_
      refine lv_iload X.1 X.2.1 dX4_numberOf_65 (lv_at hl 4 rfl) ?_
      refine lv_iadd X.1 X.2.1 dX4_numberOf_67 ?_
      refine lv_aload_n X.1 X.2.1 dX4_numberOf_68 rfl (lv_at hl 1 rfl) ?_
      refine lv_iload_n X.1 X.2.1 dX4_numberOf_69 rfl (lv_at hl 2 rfl) ?_
      refine lv_iload X.1 X.2.1 dX4_numberOf_70 (lv_at hl 4 rfl) ?_
      refine lv_iadd X.1 X.2.1 dX4_numberOf_72 ?_
      obtain ⟨g73, hw⟩ := hw
      refine ca_1 X.1 X.2.1 hK hO g73 dX4_numberOf_73 ?_
      refine lv_i2b X.1 X.2.1 dX4_numberOf_74 rfl ?_
      obtain ⟨g75, hw⟩ := hw
      refine cs_3 X.1 X.2.1 hK hO g75 dX4_numberOf_75 (fun H locs hO => ?_)
      obtain ⟨t75, e75⟩ : ∃ z, z = sA σ 1 (((σ.1 1) * (10 : Int32)) + x4) (vp_nar .byte ((σ.2.1 0 (x2 + x4).toNatClampNeg).toInt8.toInt32)) := ⟨_, rfl⟩
      have hw := hw t75 e75
      rw [← e75] at hO
      obtain ⟨v76, e76⟩ : ∃ z, z = x4 + (1 : Int32) := ⟨_, rfl⟩
      have hw := hw v76 e76
      refine lv_iinc (lv' := [(4, .int v76), (0, .ref (b 2)), (1, .ref (b 1)), (2, .int x2), (3, .int x3)]) (k := 4) (v := v76) X.1 X.2.1 dX4_numberOf_76 hl rfl (by rw [e76]; rfl) (by decide) rfl (fun ls hl => ?_)
      refine lv_goto (tgt := 48) X.1 X.2.1 dX4_numberOf_79 rfl ?_
      exact k48 x2 x3 v76 t75 H locs ls (lv_sub hl [1, 2, 3, 4, 0] rfl) hO hw
def C_X4_numberOf_b3_s (b : Nat → Nat) (k : Nat → ClassId) (Q : Int32 → cS → Prop) (K3 : Int32 → Int32 → Int32 → cS → Prop) (x2 : Int32) (x3 : Int32) (x4 : Int32) (σ : cS) : Prop :=
 ((σ.1 1) ≤ x4 → (¬ (σ.1 1) = (192 : Int32) → C_X4_numberOf_b48 b k Q x2 x3 (0 : Int32) σ) ∧ ((σ.1 1) = (192 : Int32) → Q (-1 : Int32) σ)) ∧ (¬ (σ.1 1) ≤ x4 → C_X4_isText_w b k (fun r18 t18 => (r18 = 0 → ∀ v27 : Int32, v27 = x4 + (1 : Int32) → K3 x2 x3 v27 t18) ∧ (¬ r18 = 0 → Q x4 t18)) x4 x2 x3 σ)
def C_X4_numberOf_b3_f (b : Nat → Nat) (k : Nat → ClassId) (Q : Int32 → cS → Prop) : (Int32 × Int32 × Int32 × cS → Prop) → Int32 × Int32 × Int32 × cS → Prop :=
 fun K z => C_X4_numberOf_b3_s b k Q (fun x2 x3 x4 σ => K (x2, x3, x4, σ)) z.1 z.2.1 z.2.2.1 z.2.2.2
def C_X4_numberOf_b3 (b : Nat → Nat) (k : Nat → ClassId) (Q : Int32 → cS → Prop) (x2 : Int32) (x3 : Int32) (x4 : Int32) (σ : cS) : Prop := ∃ n, fx (C_X4_numberOf_b3_f b k Q ) n (x2, x3, x4, σ)
set_option maxHeartbeats 4000000 in
set_option maxRecDepth 100000 in
theorem cB_X4_numberOf_3 {Q : Int32 → cS → Prop} (X : CallFix p m c cX4_numberOf 5 s args wsX4_numberOf RX4) (hr : meth.sig.returnType = (some .int)) (hlk : meth.locks = false) (hR : 1 ≤ R.frames ∧ 25 ≤ R.locals) (hK : cK dC dI k s) (hA : ∀ q, s.heap.size ≤ q → A q) : ∀ (n : Nat) (x2 : Int32) (x3 : Int32) (x4 : Int32) (σ : cS) (H : Heap) (locs : List Loc) (ls : Array Slot), lv_has ls 5 [(0, .ref (b 2)), (1, .ref (b 1)), (2, .int x2), (3, .int x3), (4, .int x4)] → cO dC dI b k A s.heap σ H locs → fx (C_X4_numberOf_b3_f b k Q ) n (x2, x3, x4, σ) → W p l e R s m args below meth c H locs 0 0 (MQ below (va_Qi Q (cAt dC dI A b k) A) args s 0 0 A) (F0 m 3 ls []) := by
  intro n
  induction n with
  | zero => intro x2 x3 x4 σ H locs ls hl hO hw; exact False.elim hw
  | succ n k3 =>
    intro x2 x3 x4 σ H locs ls hl hO hw
    have hw : C_X4_numberOf_b3_s b k Q (fun x2 x3 x4 σ => fx (C_X4_numberOf_b3_f b k Q ) n (x2, x3, x4, σ)) x2 x3 x4 σ := hw
    unfold C_X4_numberOf_b3_s at hw
    refine lv_iload X.1 X.2.1 dX4_numberOf_3 (lv_at hl 4 rfl) ?_
    refine lv_aload_n X.1 X.2.1 dX4_numberOf_5 rfl (lv_at hl 0 rfl) ?_
    refine cf_X4_size X fX4_X4_size hK hO dX4_numberOf_6 ?_
    refine lv_icmp_ge (tgt := 33) X.1 X.2.1 dX4_numberOf_9 rfl (fun hc9 => ?_) (fun hc9 => ?_)
    · have hw := hw.1 hc9
      refine lv_aload_n X.1 X.2.1 dX4_numberOf_33 rfl (lv_at hl 0 rfl) ?_
      refine cf_X4_size X fX4_X4_size hK hO dX4_numberOf_34 ?_
      refine lv_sipush (v := 192) X.1 X.2.1 dX4_numberOf_37 (by decide) ?_
      refine lv_icmp_ne (tgt := 45) X.1 X.2.1 dX4_numberOf_40 rfl (fun hc9 => ?_) (fun hc9 => ?_)
      · have hw := hw.1 hc9
        refine lv_iconst (v := 0) X.1 X.2.1 dX4_numberOf_45 (by decide) ?_
        refine lv_istore (lv' := [(4, .int (0 : Int32)), (0, .ref (b 2)), (1, .ref (b 1)), (2, .int x2), (3, .int x3)]) X.1 X.2.1 dX4_numberOf_46 hl (by decide) rfl (fun ls hl => ?_)
        obtain ⟨n, hw⟩ := hw
        exact cB_X4_numberOf_48 X hr hlk hR hK hA n x2 x3 (0 : Int32) σ H locs ls (lv_sub hl [1, 2, 3, 4, 0] rfl) hO hw
      · have hw := hw.2 hc9
        refine lv_iconst (v := -1) X.1 X.2.1 dX4_numberOf_43 (by decide) ?_
        exact W.iret (v := (-1 : Int32)) X.1 X.2.1 hr (fun t ht hW => ⟨⟨(-1 : Int32), σ, rfl, hw, cO_end hO hK ht hW⟩, hO.2.2.F ht⟩) hO.2.2.2.2 dX4_numberOf_44 hlk
    · have hw := hw.2 hc9
      refine lv_aload_n X.1 X.2.1 dX4_numberOf_12 rfl (lv_at hl 0 rfl) ?_
      refine lv_iload X.1 X.2.1 dX4_numberOf_13 (lv_at hl 4 rfl) ?_
      refine lv_aload_n X.1 X.2.1 dX4_numberOf_15 rfl (lv_at hl 1 rfl) ?_
      refine lv_iload_n X.1 X.2.1 dX4_numberOf_16 rfl (lv_at hl 2 rfl) ?_
      refine lv_iload_n X.1 X.2.1 dX4_numberOf_17 rfl (lv_at hl 3 rfl) ?_
      refine c_calli (rest := []) (As := [.int x4, .ref (b 1), .int x2, .int x3]) X (cC_X4_isText l dC dI b k σ H.size x4 x2 x3 _ hw) (cwV 4 X.2.2.2.2 gX4_X4_isText rfl rfl rfl hdX4_isText ⟨Nat.le_trans (show 0 + 1 ≤ 1 by decide) hR.1, Nat.le_trans (show 8 + (6 + 11) + 0 ≤ 25 by decide) hR.2⟩) (cRecv_X4 hK hO) hK hA hO rfl hl.1 rfl (Nat.le_of_ble_eq_true rfl) dX4_numberOf_18 (Nat.zero_le _) (Nat.zero_le _) (fun r18 t18 H locs hO hw => ?_)
      refine lv_if_eq (tgt := 27) X.1 X.2.1 dX4_numberOf_21 rfl (fun hc9 => ?_) (fun hc9 => ?_)
      · have hw := hw.1 hc9
        obtain ⟨v27, e27⟩ : ∃ z, z = x4 + (1 : Int32) := ⟨_, rfl⟩
        have hw := hw v27 e27
        refine lv_iinc (lv' := [(4, .int v27), (0, .ref (b 2)), (1, .ref (b 1)), (2, .int x2), (3, .int x3)]) (k := 4) (v := v27) X.1 X.2.1 dX4_numberOf_27 hl rfl (by rw [e27]; rfl) (by decide) rfl (fun ls hl => ?_)
        refine lv_goto (tgt := 3) X.1 X.2.1 dX4_numberOf_30 rfl ?_
        exact k3 x2 x3 v27 t18 H locs ls (lv_sub hl [1, 2, 3, 4, 0] rfl) hO hw
      · have hw := hw.2 hc9
        refine lv_iload X.1 X.2.1 dX4_numberOf_24 (lv_at hl 4 rfl) ?_
        exact W.iret (v := x4) X.1 X.2.1 hr (fun t ht hW => ⟨⟨x4, t18, rfl, hw, cO_end hO hK ht hW⟩, hO.2.2.F ht⟩) hO.2.2.2.2 dX4_numberOf_26 hlk
def C_X4_numberOf_b0 (b : Nat → Nat) (k : Nat → ClassId) (Q : Int32 → cS → Prop) (x2 : Int32) (x3 : Int32) (σ : cS) : Prop :=
 C_X4_numberOf_b3 b k Q x2 x3 (0 : Int32) σ
set_option maxHeartbeats 4000000 in
set_option maxRecDepth 100000 in
theorem cB_X4_numberOf_0 {Q : Int32 → cS → Prop} (X : CallFix p m c cX4_numberOf 5 s args wsX4_numberOf RX4) (hr : meth.sig.returnType = (some .int)) (hlk : meth.locks = false) (hR : 1 ≤ R.frames ∧ 25 ≤ R.locals) (hK : cK dC dI k s) (hA : ∀ q, s.heap.size ≤ q → A q) (x2 : Int32) (x3 : Int32) (σ : cS) (H : Heap) (locs : List Loc) (ls : Array Slot) (hl : lv_has ls 5 [(0, .ref (b 2)), (1, .ref (b 1)), (2, .int x2), (3, .int x3)]) (hO : cO dC dI b k A s.heap σ H locs) (hw : C_X4_numberOf_b0 b k Q x2 x3 σ) : W p l e R s m args below meth c H locs 0 0 (MQ below (va_Qi Q (cAt dC dI A b k) A) args s 0 0 A) (F0 m 0 ls []) := by
  unfold C_X4_numberOf_b0 at hw
  refine lv_iconst (v := 0) X.1 X.2.1 dX4_numberOf_0 (by decide) ?_
  refine lv_istore (lv' := [(4, .int (0 : Int32)), (0, .ref (b 2)), (1, .ref (b 1)), (2, .int x2), (3, .int x3)]) X.1 X.2.1 dX4_numberOf_1 hl (by decide) rfl (fun ls hl => ?_)
  obtain ⟨n, hw⟩ := hw
  exact cB_X4_numberOf_3 X hr hlk hR hK hA n x2 x3 (0 : Int32) σ H locs ls (lv_sub hl [1, 2, 3, 4, 0] rfl) hO hw
def C_X4_numberOf_w (b : Nat → Nat) (k : Nat → ClassId) (Q : Int32 → cS → Prop) (x2 : Int32) (x3 : Int32) (σ : cS) : Prop := C_X4_numberOf_b0 b k Q x2 x3 σ
abbrev rmX4_numberOf : Room := { frames := 1, cells := 0, slots := 0, locals := 25 }
set_option maxHeartbeats 4000000 in
set_option maxRecDepth 100000 in
theorem cC_X4_numberOf (l : Launch) (dC : Nat → ClassId) (dI : Nat → Nat → Nat) (b : Nat → Nat) (k : Nat → ClassId) (σ : cS) (sz : Nat) (x2 : Int32) (x3 : Int32) (Q : Int32 → cS → Prop) (hw : C_X4_numberOf_w b k Q x2 x3 σ) : Met l yX4_numberOf wsX4_numberOf rmX4_numberOf (cPc dC dI b k sz σ [.ref (b 2), .ref (b 1), .int x2, .int x3]) (va_Qi Q (cAt dC dI (va_A (cCells b k σ) sz) b k) (va_A (cCells b k σ) sz)) 0 0 (va_A (cCells b k σ) sz) := by
  refine Met.ofW (cc := cX4_numberOf) (maxL := 5) (ret := (some .int)) (by decide) rfl ?_
  intro p e s m args below meth c s₁ B hml hv
  obtain ⟨hargs, hsz, hP, hK, hD0⟩ := hv
  have hts := atoms_spec (ws := wsX4_numberOf) B.pre
  have hown : s.vm.findClass RX4 = some m.cls := findClass_of_methodNamed B.named
  subst hsz
  subst hargs
  have hD := hD0.self (sz := s.heap.size)
  generalize hAe : va_A (cCells b k σ) s.heap.size = A at hD ⊢
  have hA : ∀ q : Nat, s.heap.size ≤ q → A q := fun q h => by rw [← hAe]; exact Or.inr h
  have hl := lv_entry ([.ref (b 2), .ref (b 1), .int x2, .int x3]) (n := 5) (Nat.le_of_ble_eq_true rfl)
  rw [lg_entry_eq]
  generalize (lg_sl ([.ref (b 2), .ref (b 1), .int x2, .int x3]) ++ List.replicate (5 - (lg_sl ([.ref (b 2), .ref (b 1), .int x2, .int x3])).length) Slot.unset).toArray = ls at hl ⊢
  have hl : lv_has ls 5 [(0, .ref (b 2)), (1, .ref (b 1)), (2, .int x2), (3, .int x3)] := hl
  unfold C_X4_numberOf_w at hw
  exact cB_X4_numberOf_0 ⟨B.exec, B.bytes, hml, hown, hts⟩ B.returns B.notSynchronized ⟨Nat.le_of_ble_eq_true rfl, Nat.le_of_ble_eq_true rfl⟩ hK hA x2 x3 σ s.heap [] ls (lv_sub hl [0, 1, 2, 3] rfl) ⟨hP, hD, va_S.rf⟩ hw
def C_X3_readText_b82 (b : Nat → Nat) (k : Nat → ClassId) (Q : Int32 → cS → Prop) (y0 : Int32) (σ : cS) : Prop :=
 Q y0 σ
set_option maxHeartbeats 4000000 in
set_option maxRecDepth 100000 in
theorem cB_X3_readText_82 {Q : Int32 → cS → Prop} (X : CallFix p m c cX3_readText 6 s args wsX3_readText RX3) (hr : meth.sig.returnType = (some .int)) (hlk : meth.locks = false) (hR : 2 ≤ R.frames ∧ 49 ≤ R.locals) (hK : cK dC dI k s) (hA : ∀ q, s.heap.size ≤ q → A q) (y0 : Int32) (σ : cS) (H : Heap) (locs : List Loc) (ls : Array Slot) (hl : lv_has ls 6 [(0, .ref (b 10))]) (hO : cO dC dI b k A s.heap σ H locs) (hw : C_X3_readText_b82 b k Q y0 σ) : W p l e R s m args below meth c H locs 0 0 (MQ below (va_Qi Q (cAt dC dI A b k) A) args s 0 0 A) (F0 m 82 ls [.int y0]) := by
  unfold C_X3_readText_b82 at hw
  exact W.iret (v := y0) X.1 X.2.1 hr (fun t ht hW => ⟨⟨y0, σ, rfl, hw, cO_end hO hK ht hW⟩, hO.2.2.F ht⟩) hO.2.2.2.2 dX3_readText_82 hlk
def C_X3_readText_b52 (b : Nat → Nat) (k : Nat → ClassId) (Q : Int32 → cS → Prop) (K14 : Int32 → Int32 → Int32 → cS → Prop) (x1 : Int32) (x2 : Int32) (x3 : Int32) (σ : cS) : Prop :=
 ∀ v52 : Int32, v52 = x3 + (1 : Int32) → K14 x1 x2 v52 σ
set_option maxHeartbeats 4000000 in
set_option maxRecDepth 100000 in
theorem cB_X3_readText_52 {Q : Int32 → cS → Prop} {K14 : Int32 → Int32 → Int32 → cS → Prop} (X : CallFix p m c cX3_readText 6 s args wsX3_readText RX3) (hr : meth.sig.returnType = (some .int)) (hlk : meth.locks = false) (hR : 2 ≤ R.frames ∧ 49 ≤ R.locals) (hK : cK dC dI k s) (hA : ∀ q, s.heap.size ≤ q → A q) (k14 : ∀ (x1 : Int32) (x2 : Int32) (x3 : Int32) (σ : cS) (H : Heap) (locs : List Loc) (ls : Array Slot), lv_has ls 6 [(0, .ref (b 10)), (1, .int x1), (2, .int x2), (3, .int x3)] → cO dC dI b k A s.heap σ H locs → K14 x1 x2 x3 σ → W p l e R s m args below meth c H locs 0 0 (MQ below (va_Qi Q (cAt dC dI A b k) A) args s 0 0 A) (F0 m 14 ls [])) (x1 : Int32) (x2 : Int32) (x3 : Int32) (σ : cS) (H : Heap) (locs : List Loc) (ls : Array Slot) (hl : lv_has ls 6 [(0, .ref (b 10)), (1, .int x1), (2, .int x2), (3, .int x3)]) (hO : cO dC dI b k A s.heap σ H locs) (hw : C_X3_readText_b52 b k Q K14 x1 x2 x3 σ) : W p l e R s m args below meth c H locs 0 0 (MQ below (va_Qi Q (cAt dC dI A b k) A) args s 0 0 A) (F0 m 52 ls []) := by
  unfold C_X3_readText_b52 at hw
  obtain ⟨v52, e52⟩ : ∃ z, z = x3 + (1 : Int32) := ⟨_, rfl⟩
  have hw := hw v52 e52
  refine lv_iinc (lv' := [(3, .int v52), (0, .ref (b 10)), (1, .int x1), (2, .int x2)]) (k := 3) (v := v52) X.1 X.2.1 dX3_readText_52 hl rfl (by rw [e52]; rfl) (by decide) rfl (fun ls hl => ?_)
  refine lv_goto (tgt := 14) X.1 X.2.1 dX3_readText_55 rfl ?_
  exact k14 x1 x2 v52 σ H locs ls (lv_sub hl [1, 2, 3, 0] rfl) hO hw
def C_X3_readText_b45 (b : Nat → Nat) (k : Nat → ClassId) (Q : Int32 → cS → Prop) (K14 : Int32 → Int32 → Int32 → cS → Prop) (x1 : Int32) (x2 : Int32) (x3 : Int32) (x4 : Int32) (σ : cS) : Prop :=
 C_X3_refuse_w b k (fun t49 => C_X3_readText_b52 b k Q K14 x1 x2 x3 t49) (5 : Int32) x4 σ
set_option maxHeartbeats 4000000 in
set_option maxRecDepth 100000 in
theorem cB_X3_readText_45 {Q : Int32 → cS → Prop} {K14 : Int32 → Int32 → Int32 → cS → Prop} (X : CallFix p m c cX3_readText 6 s args wsX3_readText RX3) (hr : meth.sig.returnType = (some .int)) (hlk : meth.locks = false) (hR : 2 ≤ R.frames ∧ 49 ≤ R.locals) (hK : cK dC dI k s) (hA : ∀ q, s.heap.size ≤ q → A q) (k14 : ∀ (x1 : Int32) (x2 : Int32) (x3 : Int32) (σ : cS) (H : Heap) (locs : List Loc) (ls : Array Slot), lv_has ls 6 [(0, .ref (b 10)), (1, .int x1), (2, .int x2), (3, .int x3)] → cO dC dI b k A s.heap σ H locs → K14 x1 x2 x3 σ → W p l e R s m args below meth c H locs 0 0 (MQ below (va_Qi Q (cAt dC dI A b k) A) args s 0 0 A) (F0 m 14 ls [])) (x1 : Int32) (x2 : Int32) (x3 : Int32) (x4 : Int32) (σ : cS) (H : Heap) (locs : List Loc) (ls : Array Slot) (hl : lv_has ls 6 [(0, .ref (b 10)), (1, .int x1), (2, .int x2), (3, .int x3), (4, .int x4)]) (hO : cO dC dI b k A s.heap σ H locs) (hw : C_X3_readText_b45 b k Q K14 x1 x2 x3 x4 σ) : W p l e R s m args below meth c H locs 0 0 (MQ below (va_Qi Q (cAt dC dI A b k) A) args s 0 0 A) (F0 m 45 ls []) := by
  unfold C_X3_readText_b45 at hw
  refine lv_aload_n X.1 X.2.1 dX3_readText_45 rfl (lv_at hl 0 rfl) ?_
  refine lv_iconst (v := 5) X.1 X.2.1 dX3_readText_46 (by decide) ?_
  refine lv_iload X.1 X.2.1 dX3_readText_47 (lv_at hl 4 rfl) ?_
  refine c_callv (rest := []) (As := [.int (5 : Int32), .int x4]) X (cC_X3_refuse l dC dI b k σ H.size (5 : Int32) x4 _ hw) (cwV 2 X.2.2.2.2 gX3_X3_refuse rfl rfl rfl hdX3_refuse ⟨Nat.le_trans (show 0 + 1 ≤ 2 by decide) hR.1, Nat.le_trans (show 8 + (3 + 11) + 0 ≤ 49 by decide) hR.2⟩) (cRecv_X3 hK hO) hK hA hO rfl hl.1 rfl (Nat.le_of_ble_eq_true rfl) dX3_readText_49 (Nat.zero_le _) (Nat.zero_le _) (fun t49 H locs hO hw => ?_)
  exact cB_X3_readText_52 X hr hlk hR hK hA k14 x1 x2 x3 t49 H locs ls (lv_sub hl [0, 1, 2, 3] rfl) hO hw
def C_X3_readText_b14_s (b : Nat → Nat) (k : Nat → ClassId) (Q : Int32 → cS → Prop) (K14 : Int32 → Int32 → Int32 → cS → Prop) (x1 : Int32) (x2 : Int32) (x3 : Int32) (σ : cS) : Prop :=
 (x1 ≤ x3 → (¬ (σ.1 3) = 0 → C_X3_readText_b82 b k Q (-1 : Int32) σ) ∧ ((σ.1 3) = 0 → σ.2.2.2.1 1 = some (b 2) ∧ σ.2.2.2.1 0 = some (b 1) ∧ C_X4_numberOf_w b k (fun r75 t75 => C_X3_readText_b82 b k Q r75 t75) x2 x1 σ)) ∧ (¬ x1 ≤ x3 → ∀ v23 : Int32, v23 = (σ.1 5) → C_X3_next_w b k (fun r26 t26 => (r26 < (33 : Int32) → C_X3_readText_b45 b k Q K14 x1 x2 x3 v23 t26) ∧ (¬ r26 < (33 : Int32) → (r26 ≤ (126 : Int32) → C_X3_readText_b52 b k Q K14 x1 x2 x3 t26) ∧ (¬ r26 ≤ (126 : Int32) → C_X3_readText_b45 b k Q K14 x1 x2 x3 v23 t26))) σ)
def C_X3_readText_b14_f (b : Nat → Nat) (k : Nat → ClassId) (Q : Int32 → cS → Prop) : (Int32 × Int32 × Int32 × cS → Prop) → Int32 × Int32 × Int32 × cS → Prop :=
 fun K z => C_X3_readText_b14_s b k Q (fun x1 x2 x3 σ => K (x1, x2, x3, σ)) z.1 z.2.1 z.2.2.1 z.2.2.2
def C_X3_readText_b14 (b : Nat → Nat) (k : Nat → ClassId) (Q : Int32 → cS → Prop) (x1 : Int32) (x2 : Int32) (x3 : Int32) (σ : cS) : Prop := ∃ n, fx (C_X3_readText_b14_f b k Q ) n (x1, x2, x3, σ)
set_option maxHeartbeats 4000000 in
set_option maxRecDepth 100000 in
theorem cB_X3_readText_14 {Q : Int32 → cS → Prop} (X : CallFix p m c cX3_readText 6 s args wsX3_readText RX3) (hr : meth.sig.returnType = (some .int)) (hlk : meth.locks = false) (hR : 2 ≤ R.frames ∧ 49 ≤ R.locals) (hK : cK dC dI k s) (hA : ∀ q, s.heap.size ≤ q → A q) : ∀ (n : Nat) (x1 : Int32) (x2 : Int32) (x3 : Int32) (σ : cS) (H : Heap) (locs : List Loc) (ls : Array Slot), lv_has ls 6 [(0, .ref (b 10)), (1, .int x1), (2, .int x2), (3, .int x3)] → cO dC dI b k A s.heap σ H locs → fx (C_X3_readText_b14_f b k Q ) n (x1, x2, x3, σ) → W p l e R s m args below meth c H locs 0 0 (MQ below (va_Qi Q (cAt dC dI A b k) A) args s 0 0 A) (F0 m 14 ls []) := by
  intro n
  induction n with
  | zero => intro x1 x2 x3 σ H locs ls hl hO hw; exact False.elim hw
  | succ n k14 =>
    intro x1 x2 x3 σ H locs ls hl hO hw
    have hw : C_X3_readText_b14_s b k Q (fun x1 x2 x3 σ => fx (C_X3_readText_b14_f b k Q ) n (x1, x2, x3, σ)) x1 x2 x3 σ := hw
    unfold C_X3_readText_b14_s at hw
    refine lv_iload_n X.1 X.2.1 dX3_readText_14 rfl (lv_at hl 3 rfl) ?_
    refine lv_iload_n X.1 X.2.1 dX3_readText_15 rfl (lv_at hl 1 rfl) ?_
    refine lv_icmp_ge (tgt := 58) X.1 X.2.1 dX3_readText_16 rfl (fun hc9 => ?_) (fun hc9 => ?_)
    · have hw := hw.1 hc9
      refine lv_aload_n X.1 X.2.1 dX3_readText_58 rfl (lv_at hl 0 rfl) ?_
      refine cf_X3_fault X fX3_X3_fault hK hO dX3_readText_59 ?_
      refine lv_if_ne (tgt := 81) X.1 X.2.1 dX3_readText_62 rfl (fun hc9 => ?_) (fun hc9 => ?_)
      · have hw := hw.1 hc9
        refine lv_iconst (v := -1) X.1 X.2.1 dX3_readText_81 (by decide) ?_
        exact cB_X3_readText_82 X hr hlk hR hK hA (-1 : Int32) σ H locs ls (lv_sub hl [0] rfl) hO hw
      · have hw := hw.2 hc9
        refine lv_aload_n X.1 X.2.1 dX3_readText_65 rfl (lv_at hl 0 rfl) ?_
        obtain ⟨g66, hw⟩ := hw
        refine cf_X3_texts X fX3_X3_texts hK hO g66 dX3_readText_66 ?_
        refine lv_aload_n X.1 X.2.1 dX3_readText_69 rfl (lv_at hl 0 rfl) ?_
        obtain ⟨g70, hw⟩ := hw
        refine cf_X3_bytes X fX3_X3_bytes hK hO g70 dX3_readText_70 ?_
        refine lv_iload_n X.1 X.2.1 dX3_readText_73 rfl (lv_at hl 2 rfl) ?_
        refine lv_iload_n X.1 X.2.1 dX3_readText_74 rfl (lv_at hl 1 rfl) ?_
        refine c_calli (rest := []) (As := [.ref (b 1), .int x2, .int x1]) X (cC_X4_numberOf l dC dI b k σ H.size x2 x1 _ hw) (cwV 3 X.2.2.2.2 gX3_X4_numberOf rfl rfl rfl hdX4_numberOf ⟨Nat.le_trans (show 1 + 1 ≤ 2 by decide) hR.1, Nat.le_trans (show 8 + (5 + 11) + 25 ≤ 49 by decide) hR.2⟩) (cRecv_X4 hK hO) hK hA hO rfl hl.1 rfl (Nat.le_of_ble_eq_true rfl) dX3_readText_75 (Nat.zero_le _) (Nat.zero_le _) (fun r75 t75 H locs hO hw => ?_)
        refine lv_goto (tgt := 82) X.1 X.2.1 dX3_readText_78 rfl ?_
        exact cB_X3_readText_82 X hr hlk hR hK hA r75 t75 H locs ls (lv_sub hl [0] rfl) hO hw
    · have hw := hw.2 hc9
      refine lv_aload_n X.1 X.2.1 dX3_readText_19 rfl (lv_at hl 0 rfl) ?_
      refine cf_X3_place X fX3_X3_place hK hO dX3_readText_20 ?_
      refine lv_topi (fun v23 e23 => ?_)
      have hw := hw v23 e23
      refine lv_istore (lv' := [(4, .int v23), (0, .ref (b 10)), (1, .int x1), (2, .int x2), (3, .int x3)]) X.1 X.2.1 dX3_readText_23 hl (by decide) rfl (fun ls hl => ?_)
      refine lv_aload_n X.1 X.2.1 dX3_readText_25 rfl (lv_at hl 1 rfl) ?_
      refine c_calli (rest := []) (As := []) X (cC_X3_next l dC dI b k σ H.size _ hw) (cwV 0 X.2.2.2.2 gX3_X3_next rfl rfl rfl hdX3_next ⟨Nat.le_trans (show 0 + 1 ≤ 2 by decide) hR.1, Nat.le_trans (show 8 + (1 + 11) + 0 ≤ 49 by decide) hR.2⟩) (cRecv_X3 hK hO) hK hA hO rfl hl.1 rfl (Nat.le_of_ble_eq_true rfl) dX3_readText_26 (Nat.zero_le _) (Nat.zero_le _) (fun r26 t26 H locs hO hw => ?_)
      refine lv_istore (lv' := [(5, .int r26), (4, .int v23), (0, .ref (b 10)), (1, .int x1), (2, .int x2), (3, .int x3)]) X.1 X.2.1 dX3_readText_29 hl (by decide) rfl (fun ls hl => ?_)
      refine lv_iload X.1 X.2.1 dX3_readText_31 (lv_at hl 0 rfl) ?_
      refine lv_bipush (v := 33) X.1 X.2.1 dX3_readText_33 (by decide) ?_
      refine lv_icmp_lt (tgt := 45) X.1 X.2.1 dX3_readText_35 rfl (fun hc9 => ?_) (fun hc9 => ?_)
      · have hw := hw.1 hc9
        exact cB_X3_readText_45 X hr hlk hR hK hA k14 x1 x2 x3 v23 t26 H locs ls (lv_sub hl [2, 3, 4, 5, 1] rfl) hO hw
      · have hw := hw.2 hc9
        refine lv_iload X.1 X.2.1 dX3_readText_38 (lv_at hl 0 rfl) ?_
        refine lv_bipush (v := 126) X.1 X.2.1 dX3_readText_40 (by decide) ?_
        refine lv_icmp_le (tgt := 52) X.1 X.2.1 dX3_readText_42 rfl (fun hc9 => ?_) (fun hc9 => ?_)
        · have hw := hw.1 hc9
          exact cB_X3_readText_52 X hr hlk hR hK hA k14 x1 x2 x3 t26 H locs ls (lv_sub hl [2, 3, 4, 5] rfl) hO hw
        · have hw := hw.2 hc9
          exact cB_X3_readText_45 X hr hlk hR hK hA k14 x1 x2 x3 v23 t26 H locs ls (lv_sub hl [2, 3, 4, 5, 1] rfl) hO hw
def C_X3_readText_b0 (b : Nat → Nat) (k : Nat → ClassId) (Q : Int32 → cS → Prop) (σ : cS) : Prop :=
 C_X3_readAtMost_w b k (fun r3 t3 => ∀ v11 : Int32, v11 = (t3.1 5) → C_X3_readText_b14 b k Q r3 v11 (0 : Int32) t3) (10 : Int32) σ
set_option maxHeartbeats 4000000 in
set_option maxRecDepth 100000 in
theorem cB_X3_readText_0 {Q : Int32 → cS → Prop} (X : CallFix p m c cX3_readText 6 s args wsX3_readText RX3) (hr : meth.sig.returnType = (some .int)) (hlk : meth.locks = false) (hR : 2 ≤ R.frames ∧ 49 ≤ R.locals) (hK : cK dC dI k s) (hA : ∀ q, s.heap.size ≤ q → A q) (σ : cS) (H : Heap) (locs : List Loc) (ls : Array Slot) (hl : lv_has ls 6 [(0, .ref (b 10))]) (hO : cO dC dI b k A s.heap σ H locs) (hw : C_X3_readText_b0 b k Q σ) : W p l e R s m args below meth c H locs 0 0 (MQ below (va_Qi Q (cAt dC dI A b k) A) args s 0 0 A) (F0 m 0 ls []) := by
  unfold C_X3_readText_b0 at hw
  refine lv_aload_n X.1 X.2.1 dX3_readText_0 rfl (lv_at hl 0 rfl) ?_
  refine lv_bipush (v := 10) X.1 X.2.1 dX3_readText_1 (by decide) ?_
  refine c_calli (rest := []) (As := [.int (10 : Int32)]) X (cC_X3_readAtMost l dC dI b k σ H.size (10 : Int32) _ hw) (cwV 1 X.2.2.2.2 gX3_X3_readAtMost rfl rfl rfl hdX3_readAtMost ⟨Nat.le_trans (show 1 + 1 ≤ 2 by decide) hR.1, Nat.le_trans (show 8 + (4 + 11) + 22 ≤ 49 by decide) hR.2⟩) (cRecv_X3 hK hO) hK hA hO rfl hl.1 rfl (Nat.le_of_ble_eq_true rfl) dX3_readText_3 (Nat.zero_le _) (Nat.zero_le _) (fun r3 t3 H locs hO hw => ?_)
  refine lv_istore_n (lv' := [(1, .int r3), (0, .ref (b 10))]) X.1 X.2.1 dX3_readText_6 rfl hl (by decide) rfl (fun ls hl => ?_)
  refine lv_aload_n X.1 X.2.1 dX3_readText_7 rfl (lv_at hl 1 rfl) ?_
  refine cf_X3_place X fX3_X3_place hK hO dX3_readText_8 ?_
  refine lv_topi (fun v11 e11 => ?_)
  have hw := hw v11 e11
  refine lv_istore_n (lv' := [(2, .int v11), (1, .int r3), (0, .ref (b 10))]) X.1 X.2.1 dX3_readText_11 rfl hl (by decide) rfl (fun ls hl => ?_)
  refine lv_iconst (v := 0) X.1 X.2.1 dX3_readText_12 (by decide) ?_
  refine lv_istore_n (lv' := [(3, .int (0 : Int32)), (2, .int v11), (1, .int r3), (0, .ref (b 10))]) X.1 X.2.1 dX3_readText_13 rfl hl (by decide) rfl (fun ls hl => ?_)
  obtain ⟨n, hw⟩ := hw
  exact cB_X3_readText_14 X hr hlk hR hK hA n r3 v11 (0 : Int32) t3 H locs ls (lv_sub hl [3, 2, 1, 0] rfl) hO hw
def C_X3_readText_w (b : Nat → Nat) (k : Nat → ClassId) (Q : Int32 → cS → Prop) (σ : cS) : Prop := C_X3_readText_b0 b k Q σ
abbrev rmX3_readText : Room := { frames := 2, cells := 0, slots := 0, locals := 49 }
set_option maxHeartbeats 4000000 in
set_option maxRecDepth 100000 in
theorem cC_X3_readText (l : Launch) (dC : Nat → ClassId) (dI : Nat → Nat → Nat) (b : Nat → Nat) (k : Nat → ClassId) (σ : cS) (sz : Nat) (Q : Int32 → cS → Prop) (hw : C_X3_readText_w b k Q σ) : Met l yX3_readText wsX3_readText rmX3_readText (cPc dC dI b k sz σ [.ref (b 10)]) (va_Qi Q (cAt dC dI (va_A (cCells b k σ) sz) b k) (va_A (cCells b k σ) sz)) 0 0 (va_A (cCells b k σ) sz) := by
  refine Met.ofW (cc := cX3_readText) (maxL := 6) (ret := (some .int)) (by decide) rfl ?_
  intro p e s m args below meth c s₁ B hml hv
  obtain ⟨hargs, hsz, hP, hK, hD0⟩ := hv
  have hts := atoms_spec (ws := wsX3_readText) B.pre
  have hown : s.vm.findClass RX3 = some m.cls := findClass_of_methodNamed B.named
  subst hsz
  subst hargs
  have hD := hD0.self (sz := s.heap.size)
  generalize hAe : va_A (cCells b k σ) s.heap.size = A at hD ⊢
  have hA : ∀ q : Nat, s.heap.size ≤ q → A q := fun q h => by rw [← hAe]; exact Or.inr h
  have hl := lv_entry ([.ref (b 10)]) (n := 6) (Nat.le_of_ble_eq_true rfl)
  rw [lg_entry_eq]
  generalize (lg_sl ([.ref (b 10)]) ++ List.replicate (6 - (lg_sl ([.ref (b 10)])).length) Slot.unset).toArray = ls at hl ⊢
  have hl : lv_has ls 6 [(0, .ref (b 10))] := hl
  unfold C_X3_readText_w at hw
  exact cB_X3_readText_0 ⟨B.exec, B.bytes, hml, hown, hts⟩ B.returns B.notSynchronized ⟨Nat.le_of_ble_eq_true rfl, Nat.le_of_ble_eq_true rfl⟩ hK hA σ s.heap [] ls (lv_sub hl [0] rfl) ⟨hP, hD, va_S.rf⟩ hw
def C_X3_readInt_b4_s (b : Nat → Nat) (k : Nat → ClassId) (Q : Int32 → cS → Prop) (K4 : Int32 → Int32 → cS → Prop) (x1 : Int32) (x2 : Int32) (σ : cS) : Prop :=
 ((4 : Int32) ≤ x2 → Q x1 σ) ∧ (¬ (4 : Int32) ≤ x2 → C_X3_next_w b k (fun r14 t14 => ∀ v18 : Int32, v18 = ((x1 <<< ((8 : Int32) &&& 31)) ||| r14) → ∀ v19 : Int32, v19 = x2 + (1 : Int32) → K4 v18 v19 t14) σ)
def C_X3_readInt_b4_f (b : Nat → Nat) (k : Nat → ClassId) (Q : Int32 → cS → Prop) : (Int32 × Int32 × cS → Prop) → Int32 × Int32 × cS → Prop :=
 fun K z => C_X3_readInt_b4_s b k Q (fun x1 x2 σ => K (x1, x2, σ)) z.1 z.2.1 z.2.2
def C_X3_readInt_b4 (b : Nat → Nat) (k : Nat → ClassId) (Q : Int32 → cS → Prop) (x1 : Int32) (x2 : Int32) (σ : cS) : Prop := ∃ n, fx (C_X3_readInt_b4_f b k Q ) n (x1, x2, σ)
set_option maxHeartbeats 4000000 in
set_option maxRecDepth 100000 in
theorem cB_X3_readInt_4 {Q : Int32 → cS → Prop} (X : CallFix p m c cX3_readInt 3 s args wsX3_readInt RX3) (hr : meth.sig.returnType = (some .int)) (hlk : meth.locks = false) (hR : 1 ≤ R.frames ∧ 20 ≤ R.locals) (hK : cK dC dI k s) (hA : ∀ q, s.heap.size ≤ q → A q) : ∀ (n : Nat) (x1 : Int32) (x2 : Int32) (σ : cS) (H : Heap) (locs : List Loc) (ls : Array Slot), lv_has ls 3 [(0, .ref (b 10)), (1, .int x1), (2, .int x2)] → cO dC dI b k A s.heap σ H locs → fx (C_X3_readInt_b4_f b k Q ) n (x1, x2, σ) → W p l e R s m args below meth c H locs 0 0 (MQ below (va_Qi Q (cAt dC dI A b k) A) args s 0 0 A) (F0 m 4 ls []) := by
  intro n
  induction n with
  | zero => intro x1 x2 σ H locs ls hl hO hw; exact False.elim hw
  | succ n k4 =>
    intro x1 x2 σ H locs ls hl hO hw
    have hw : C_X3_readInt_b4_s b k Q (fun x1 x2 σ => fx (C_X3_readInt_b4_f b k Q ) n (x1, x2, σ)) x1 x2 σ := hw
    unfold C_X3_readInt_b4_s at hw
    refine lv_iload_n X.1 X.2.1 dX3_readInt_4 rfl (lv_at hl 2 rfl) ?_
    refine lv_iconst (v := 4) X.1 X.2.1 dX3_readInt_5 (by decide) ?_
    refine lv_icmp_ge (tgt := 25) X.1 X.2.1 dX3_readInt_6 rfl (fun hc9 => ?_) (fun hc9 => ?_)
    · have hw := hw.1 hc9
      refine lv_iload_n X.1 X.2.1 dX3_readInt_25 rfl (lv_at hl 1 rfl) ?_
      exact W.iret (v := x1) X.1 X.2.1 hr (fun t ht hW => ⟨⟨x1, σ, rfl, hw, cO_end hO hK ht hW⟩, hO.2.2.F ht⟩) hO.2.2.2.2 dX3_readInt_26 hlk
    · have hw := hw.2 hc9
      refine lv_iload_n X.1 X.2.1 dX3_readInt_9 rfl (lv_at hl 1 rfl) ?_
      refine lv_bipush (v := 8) X.1 X.2.1 dX3_readInt_10 (by decide) ?_
      refine lv_ishl X.1 X.2.1 dX3_readInt_12 ?_
      refine lv_aload_n X.1 X.2.1 dX3_readInt_13 rfl (lv_at hl 0 rfl) ?_
      refine c_calli (rest := [.int (x1 <<< ((8 : Int32) &&& 31))]) (As := []) X (cC_X3_next l dC dI b k σ H.size _ hw) (cwV 0 X.2.2.2.2 gX3_X3_next rfl rfl rfl hdX3_next ⟨Nat.le_trans (show 0 + 1 ≤ 1 by decide) hR.1, Nat.le_trans (show 8 + (1 + 11) + 0 ≤ 20 by decide) hR.2⟩) (cRecv_X3 hK hO) hK hA hO rfl hl.1 rfl (Nat.le_of_ble_eq_true rfl) dX3_readInt_14 (Nat.zero_le _) (Nat.zero_le _) (fun r14 t14 H locs hO hw => ?_)
      refine lv_ior X.1 X.2.1 dX3_readInt_17 ?_
      refine lv_topi (fun v18 e18 => ?_)
      have hw := hw v18 e18
      refine lv_istore_n (lv' := [(1, .int v18), (0, .ref (b 10)), (2, .int x2)]) X.1 X.2.1 dX3_readInt_18 rfl hl (by decide) rfl (fun ls hl => ?_)
      obtain ⟨v19, e19⟩ : ∃ z, z = x2 + (1 : Int32) := ⟨_, rfl⟩
      have hw := hw v19 e19
      refine lv_iinc (lv' := [(2, .int v19), (1, .int v18), (0, .ref (b 10))]) (k := 2) (v := v19) X.1 X.2.1 dX3_readInt_19 hl rfl (by rw [e19]; rfl) (by decide) rfl (fun ls hl => ?_)
      refine lv_goto (tgt := 4) X.1 X.2.1 dX3_readInt_22 rfl ?_
      exact k4 v18 v19 t14 H locs ls (lv_sub hl [2, 1, 0] rfl) hO hw
def C_X3_readInt_b0 (b : Nat → Nat) (k : Nat → ClassId) (Q : Int32 → cS → Prop) (σ : cS) : Prop :=
 C_X3_readInt_b4 b k Q (0 : Int32) (0 : Int32) σ
set_option maxHeartbeats 4000000 in
set_option maxRecDepth 100000 in
theorem cB_X3_readInt_0 {Q : Int32 → cS → Prop} (X : CallFix p m c cX3_readInt 3 s args wsX3_readInt RX3) (hr : meth.sig.returnType = (some .int)) (hlk : meth.locks = false) (hR : 1 ≤ R.frames ∧ 20 ≤ R.locals) (hK : cK dC dI k s) (hA : ∀ q, s.heap.size ≤ q → A q) (σ : cS) (H : Heap) (locs : List Loc) (ls : Array Slot) (hl : lv_has ls 3 [(0, .ref (b 10))]) (hO : cO dC dI b k A s.heap σ H locs) (hw : C_X3_readInt_b0 b k Q σ) : W p l e R s m args below meth c H locs 0 0 (MQ below (va_Qi Q (cAt dC dI A b k) A) args s 0 0 A) (F0 m 0 ls []) := by
  unfold C_X3_readInt_b0 at hw
  refine lv_iconst (v := 0) X.1 X.2.1 dX3_readInt_0 (by decide) ?_
  refine lv_istore_n (lv' := [(1, .int (0 : Int32)), (0, .ref (b 10))]) X.1 X.2.1 dX3_readInt_1 rfl hl (by decide) rfl (fun ls hl => ?_)
  refine lv_iconst (v := 0) X.1 X.2.1 dX3_readInt_2 (by decide) ?_
  refine lv_istore_n (lv' := [(2, .int (0 : Int32)), (1, .int (0 : Int32)), (0, .ref (b 10))]) X.1 X.2.1 dX3_readInt_3 rfl hl (by decide) rfl (fun ls hl => ?_)
  obtain ⟨n, hw⟩ := hw
  exact cB_X3_readInt_4 X hr hlk hR hK hA n (0 : Int32) (0 : Int32) σ H locs ls (lv_sub hl [2, 1, 0] rfl) hO hw
def C_X3_readInt_w (b : Nat → Nat) (k : Nat → ClassId) (Q : Int32 → cS → Prop) (σ : cS) : Prop := C_X3_readInt_b0 b k Q σ
abbrev rmX3_readInt : Room := { frames := 1, cells := 0, slots := 0, locals := 20 }
set_option maxHeartbeats 4000000 in
set_option maxRecDepth 100000 in
theorem cC_X3_readInt (l : Launch) (dC : Nat → ClassId) (dI : Nat → Nat → Nat) (b : Nat → Nat) (k : Nat → ClassId) (σ : cS) (sz : Nat) (Q : Int32 → cS → Prop) (hw : C_X3_readInt_w b k Q σ) : Met l yX3_readInt wsX3_readInt rmX3_readInt (cPc dC dI b k sz σ [.ref (b 10)]) (va_Qi Q (cAt dC dI (va_A (cCells b k σ) sz) b k) (va_A (cCells b k σ) sz)) 0 0 (va_A (cCells b k σ) sz) := by
  refine Met.ofW (cc := cX3_readInt) (maxL := 3) (ret := (some .int)) (by decide) rfl ?_
  intro p e s m args below meth c s₁ B hml hv
  obtain ⟨hargs, hsz, hP, hK, hD0⟩ := hv
  have hts := atoms_spec (ws := wsX3_readInt) B.pre
  have hown : s.vm.findClass RX3 = some m.cls := findClass_of_methodNamed B.named
  subst hsz
  subst hargs
  have hD := hD0.self (sz := s.heap.size)
  generalize hAe : va_A (cCells b k σ) s.heap.size = A at hD ⊢
  have hA : ∀ q : Nat, s.heap.size ≤ q → A q := fun q h => by rw [← hAe]; exact Or.inr h
  have hl := lv_entry ([.ref (b 10)]) (n := 3) (Nat.le_of_ble_eq_true rfl)
  rw [lg_entry_eq]
  generalize (lg_sl ([.ref (b 10)]) ++ List.replicate (3 - (lg_sl ([.ref (b 10)])).length) Slot.unset).toArray = ls at hl ⊢
  have hl : lv_has ls 3 [(0, .ref (b 10))] := hl
  unfold C_X3_readInt_w at hw
  exact cB_X3_readInt_0 ⟨B.exec, B.bytes, hml, hown, hts⟩ B.returns B.notSynchronized ⟨Nat.le_of_ble_eq_true rfl, Nat.le_of_ble_eq_true rfl⟩ hK hA σ s.heap [] ls (lv_sub hl [0] rfl) ⟨hP, hD, va_S.rf⟩ hw
end
