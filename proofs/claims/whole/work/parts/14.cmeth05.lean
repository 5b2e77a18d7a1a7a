section
variable {p : Program} {l : Launch} {e : Env} {R : Room} {s : State} {m : MethodId} {args : Array Value} {below : List Frame} {meth : Method} {c : Code}
variable {dC : Nat → ClassId} {dI : Nat → Nat → Nat} {b : Nat → Nat} {k : Nat → ClassId} {A : Nat → Prop}
def C_X3_readName_b30 (b : Nat → Nat) (k : Nat → ClassId) (Q : Int32 → cS → Prop) (x2 : Int32) (σ : cS) : Prop :=
 Q x2 σ
set_option maxHeartbeats 4000000 in
set_option maxRecDepth 100000 in
theorem cB_X3_readName_30 {Q : Int32 → cS → Prop} (X : CallFix p m c cX3_readName 3 s args wsX3_readName RX3) (hr : meth.sig.returnType = (some .int)) (hlk : meth.locks = false) (hR : 2 ≤ R.frames ∧ 45 ≤ R.locals) (hK : cK dC dI k s) (hA : ∀ q, s.heap.size ≤ q → A q) (x2 : Int32) (σ : cS) (H : Heap) (locs : List Loc) (ls : Array Slot) (hl : lv_has ls 3 [(0, .ref (b 10)), (2, .int x2)]) (hO : cO dC dI b k A s.heap σ H locs) (hw : C_X3_readName_b30 b k Q x2 σ) : W p l e R s m args below meth c H locs 0 0 (MQ below (va_Qi Q (cAt dC dI A b k) A) args s 0 0 A) (F0 m 30 ls []) := by
  unfold C_X3_readName_b30 at hw
  refine lv_iload_n X.1 X.2.1 dX3_readName_30 rfl (lv_at hl 1 rfl) ?_
  exact W.iret (v := x2) X.1 X.2.1 hr (fun t ht hW => ⟨⟨x2, σ, rfl, hw, cO_end hO hK ht hW⟩, hO.2.2.F ht⟩) hO.2.2.2.2 dX3_readName_31 hlk
def C_X3_readName_b0 (b : Nat → Nat) (k : Nat → ClassId) (Q : Int32 → cS → Prop) (σ : cS) : Prop :=
 ∀ v4 : Int32, v4 = (σ.1 5) → C_X3_readConstant_w b k (fun r7 t7 => t7.2.2.2.1 2 = some (b 5) ∧ C_X1_named_w b k (fun r16 t16 => (r16 = (-1 : Int32) → C_X3_readName_b30 b k Q r7 t16) ∧ (¬ r16 = (-1 : Int32) → C_X3_refuse_w b k (fun t27 => C_X3_readName_b30 b k Q r7 t27) (9 : Int32) v4 t16)) r7 t7) (3 : Int32) σ
set_option maxHeartbeats 4000000 in
set_option maxRecDepth 100000 in
theorem cB_X3_readName_0 {Q : Int32 → cS → Prop} (X : CallFix p m c cX3_readName 3 s args wsX3_readName RX3) (hr : meth.sig.returnType = (some .int)) (hlk : meth.locks = false) (hR : 2 ≤ R.frames ∧ 45 ≤ R.locals) (hK : cK dC dI k s) (hA : ∀ q, s.heap.size ≤ q → A q) (σ : cS) (H : Heap) (locs : List Loc) (ls : Array Slot) (hl : lv_has ls 3 [(0, .ref (b 10))]) (hO : cO dC dI b k A s.heap σ H locs) (hw : C_X3_readName_b0 b k Q σ) : W p l e R s m args below meth c H locs 0 0 (MQ below (va_Qi Q (cAt dC dI A b k) A) args s 0 0 A) (F0 m 0 ls []) := by
  unfold C_X3_readName_b0 at hw
  refine lv_aload_n X.1 X.2.1 dX3_readName_0 rfl (lv_at hl 0 rfl) ?_
  refine cf_X3_place X fX3_X3_place hK hO dX3_readName_1 ?_
  refine lv_topi (fun v4 e4 => ?_)
  have hw := hw v4 e4
  refine lv_istore_n (lv' := [(1, .int v4), (0, .ref (b 10))]) X.1 X.2.1 dX3_readName_4 rfl hl (by decide) rfl (fun ls hl => ?_)
  refine lv_aload_n X.1 X.2.1 dX3_readName_5 rfl (lv_at hl 1 rfl) ?_
  refine lv_iconst (v := 3) X.1 X.2.1 dX3_readName_6 (by decide) ?_
  refine c_calli (rest := []) (As := [.int (3 : Int32)]) X (cC_X3_readConstant l dC dI b k σ H.size (3 : Int32) _ hw) (cwV 1 X.2.2.2.2 gX3_X3_readConstant rfl rfl rfl hdX3_readConstant ⟨Nat.le_trans (show 1 + 1 ≤ 2 by decide) hR.1, Nat.le_trans (show 8 + (4 + 11) + 22 ≤ 45 by decide) hR.2⟩) (cRecv_X3 hK hO) hK hA hO rfl hl.1 rfl (Nat.le_of_ble_eq_true rfl) dX3_readName_7 (Nat.zero_le _) (Nat.zero_le _) (fun r7 t7 H locs hO hw => ?_)
  refine lv_istore_n (lv' := [(2, .int r7), (1, .int v4), (0, .ref (b 10))]) X.1 X.2.1 dX3_readName_10 rfl hl (by decide) rfl (fun ls hl => ?_)
  refine lv_aload_n X.1 X.2.1 dX3_readName_11 rfl (lv_at hl 2 rfl) ?_
  obtain ⟨g12, hw⟩ := hw
  refine cf_X3_classes X fX3_X3_classes hK hO g12 dX3_readName_12 ?_
  refine lv_iload_n X.1 X.2.1 dX3_readName_15 rfl (lv_at hl 0 rfl) ?_
  refine c_calli (rest := []) (As := [.int r7]) X (cC_X1_named l dC dI b k t7 H.size r7 _ hw) (cwV 1 X.2.2.2.2 gX3_X1_named rfl rfl rfl hdX1_named ⟨Nat.le_trans (show 0 + 1 ≤ 2 by decide) hR.1, Nat.le_trans (show 8 + (2 + 11) + 0 ≤ 45 by decide) hR.2⟩) (cRecv_X1 hK hO) hK hA hO rfl hl.1 rfl (Nat.le_of_ble_eq_true rfl) dX3_readName_16 (Nat.zero_le _) (Nat.zero_le _) (fun r16 t16 H locs hO hw => ?_)
  refine lv_iconst (v := -1) X.1 X.2.1 dX3_readName_19 (by decide) ?_
  refine lv_icmp_eq (tgt := 30) X.1 X.2.1 dX3_readName_20 rfl (fun hc9 => ?_) (fun hc9 => ?_)
  · have hw := hw.1 hc9
    exact cB_X3_readName_30 X hr hlk hR hK hA r7 t16 H locs ls (lv_sub hl [2, 0] rfl) hO hw
  · have hw := hw.2 hc9
    refine lv_aload_n X.1 X.2.1 dX3_readName_23 rfl (lv_at hl 2 rfl) ?_
    refine lv_bipush (v := 9) X.1 X.2.1 dX3_readName_24 (by decide) ?_
    refine lv_iload_n X.1 X.2.1 dX3_readName_26 rfl (lv_at hl 1 rfl) ?_
    refine c_callv (rest := []) (As := [.int (9 : Int32), .int v4]) X (cC_X3_refuse l dC dI b k t16 H.size (9 : Int32) v4 _ hw) (cwV 2 X.2.2.2.2 gX3_X3_refuse rfl rfl rfl hdX3_refuse ⟨Nat.le_trans (show 0 + 1 ≤ 2 by decide) hR.1, Nat.le_trans (show 8 + (3 + 11) + 0 ≤ 45 by decide) hR.2⟩) (cRecv_X3 hK hO) hK hA hO rfl hl.1 rfl (Nat.le_of_ble_eq_true rfl) dX3_readName_27 (Nat.zero_le _) (Nat.zero_le _) (fun t27 H locs hO hw => ?_)
    exact cB_X3_readName_30 X hr hlk hR hK hA r7 t27 H locs ls (lv_sub hl [2, 0] rfl) hO hw
def C_X3_readName_w (b : Nat → Nat) (k : Nat → ClassId) (Q : Int32 → cS → Prop) (σ : cS) : Prop := C_X3_readName_b0 b k Q σ
abbrev rmX3_readName : Room := { frames := 2, cells := 0, slots := 0, locals := 45 }
set_option maxHeartbeats 4000000 in
set_option maxRecDepth 100000 in
theorem cC_X3_readName (l : Launch) (dC : Nat → ClassId) (dI : Nat → Nat → Nat) (b : Nat → Nat) (k : Nat → ClassId) (σ : cS) (sz : Nat) (Q : Int32 → cS → Prop) (hw : C_X3_readName_w b k Q σ) : Met l yX3_readName wsX3_readName rmX3_readName (cPc dC dI b k sz σ [.ref (b 10)]) (va_Qi Q (cAt dC dI (va_A (cCells b k σ) sz) b k) (va_A (cCells b k σ) sz)) 0 0 (va_A (cCells b k σ) sz) := by
  refine Met.ofW (cc := cX3_readName) (maxL := 3) (ret := (some .int)) (by decide) rfl ?_
  intro p e s m args below meth c s₁ B hml hv
  obtain ⟨hargs, hsz, hP, hK, hD0⟩ := hv
  have hts := atoms_spec (ws := wsX3_readName) B.pre
  have hown : s.vm.findClass RX3 = some m.cls := findClass_of_methodNamed B.named
  subst hsz
  subst hargs
  have hD := hD0.self (sz := s.heap.size)
  generalize hAe : va_A (cCells b k σ) s.heap.size = A at hD ⊢
  have hA : ∀ q : Nat, s.heap.size ≤ q → A q := fun q h => by rw [← hAe]; exact Or.inr h
  have hl := lv_entry ([.ref (b 10)]) (n := 3) (Nat.le_of_ble_eq_true rfl)
  rw [lg_entry_eq]
  generalize (lg_sl ([.ref (b 10)]) ++ List.replicate (3 - (lg_sl ([.ref (b 10)])).length) Slot.unset).toArray = ls at hl ⊢
  have hl : lv_has ls 3 [(0, .ref (b 10))] := hl
  unfold C_X3_readName_w at hw
  exact cB_X3_readName_0 ⟨B.exec, B.bytes, hml, hown, hts⟩ B.returns B.notSynchronized ⟨Nat.le_of_ble_eq_true rfl, Nat.le_of_ble_eq_true rfl⟩ hK hA σ s.heap [] ls (lv_sub hl [0] rfl) ⟨hP, hD, va_S.rf⟩ hw
def C_X3_readClassOrNone_b35 (b : Nat → Nat) (k : Nat → ClassId) (Q : Int32 → cS → Prop) (σ : cS) : Prop :=
 C_X3_readConstant_w b k (fun r37 t37 => Q r37 t37) (3 : Int32) σ
set_option maxHeartbeats 4000000 in
set_option maxRecDepth 100000 in
theorem cB_X3_readClassOrNone_35 {Q : Int32 → cS → Prop} (X : CallFix p m c cX3_readClassOrNone 1 s args wsX3_readClassOrNone RX3) (hr : meth.sig.returnType = (some .int)) (hlk : meth.locks = false) (hR : 2 ≤ R.frames ∧ 45 ≤ R.locals) (hK : cK dC dI k s) (hA : ∀ q, s.heap.size ≤ q → A q) (σ : cS) (H : Heap) (locs : List Loc) (ls : Array Slot) (hl : lv_has ls 1 [(0, .ref (b 10))]) (hO : cO dC dI b k A s.heap σ H locs) (hw : C_X3_readClassOrNone_b35 b k Q σ) : W p l e R s m args below meth c H locs 0 0 (MQ below (va_Qi Q (cAt dC dI A b k) A) args s 0 0 A) (F0 m 35 ls []) := by
  unfold C_X3_readClassOrNone_b35 at hw
  refine lv_aload_n X.1 X.2.1 dX3_readClassOrNone_35 rfl (lv_at hl 0 rfl) ?_
  refine lv_iconst (v := 3) X.1 X.2.1 dX3_readClassOrNone_36 (by decide) ?_
  refine c_calli (rest := []) (As := [.int (3 : Int32)]) X (cC_X3_readConstant l dC dI b k σ H.size (3 : Int32) _ hw) (cwV 1 X.2.2.2.2 gX3_X3_readConstant rfl rfl rfl hdX3_readConstant ⟨Nat.le_trans (show 1 + 1 ≤ 2 by decide) hR.1, Nat.le_trans (show 8 + (4 + 11) + 22 ≤ 45 by decide) hR.2⟩) (cRecv_X3 hK hO) hK hA hO rfl hl.1 rfl (Nat.le_of_ble_eq_true rfl) dX3_readClassOrNone_37 (Nat.zero_le _) (Nat.zero_le _) (fun r37 t37 H locs hO hw => ?_)
  exact W.iret (v := r37) X.1 X.2.1 hr (fun t ht hW => ⟨⟨r37, t37, rfl, hw, cO_end hO hK ht hW⟩, hO.2.2.F ht⟩) hO.2.2.2.2 dX3_readClassOrNone_40 hlk
def C_X3_readClassOrNone_b0 (b : Nat → Nat) (k : Nat → ClassId) (Q : Int32 → cS → Prop) (σ : cS) : Prop :=
 ((σ.1 4) ≤ (σ.1 5) → C_X3_readClassOrNone_b35 b k Q σ) ∧ (¬ (σ.1 4) ≤ (σ.1 5) → σ.2.2.2.1 0 = some (b 1) ∧ vp_in (σ.1 5) 120 ∧ (¬ (σ.2.1 0 (σ.1 5).toNatClampNeg) = 0 → C_X3_readClassOrNone_b35 b k Q σ) ∧ ((σ.2.1 0 (σ.1 5).toNatClampNeg) = 0 → ∀ t30 : cS, t30 = sI σ 5 ((σ.1 5) + (1 : Int32)) → Q (-1 : Int32) t30))
set_option maxHeartbeats 4000000 in
set_option maxRecDepth 100000 in
theorem cB_X3_readClassOrNone_0 {Q : Int32 → cS → Prop} (X : CallFix p m c cX3_readClassOrNone 1 s args wsX3_readClassOrNone RX3) (hr : meth.sig.returnType = (some .int)) (hlk : meth.locks = false) (hR : 2 ≤ R.frames ∧ 45 ≤ R.locals) (hK : cK dC dI k s) (hA : ∀ q, s.heap.size ≤ q → A q) (σ : cS) (H : Heap) (locs : List Loc) (ls : Array Slot) (hl : lv_has ls 1 [(0, .ref (b 10))]) (hO : cO dC dI b k A s.heap σ H locs) (hw : C_X3_readClassOrNone_b0 b k Q σ) : W p l e R s m args below meth c H locs 0 0 (MQ below (va_Qi Q (cAt dC dI A b k) A) args s 0 0 A) (F0 m 0 ls []) := by
  unfold C_X3_readClassOrNone_b0 at hw
  refine lv_aload_n X.1 X.2.1 dX3_readClassOrNone_0 rfl (lv_at hl 0 rfl) ?_
  refine cf_X3_place X fX3_X3_place hK hO dX3_readClassOrNone_1 ?_
  refine lv_aload_n X.1 X.2.1 dX3_readClassOrNone_4 rfl (lv_at hl 0 rfl) ?_
  refine cf_X3_end X fX3_X3_end hK hO dX3_readClassOrNone_5 ?_
  refine lv_icmp_ge (tgt := 35) X.1 X.2.1 dX3_readClassOrNone_8 rfl (fun hc9 => ?_) (fun hc9 => ?_)
  · have hw := hw.1 hc9
    exact cB_X3_readClassOrNone_35 X hr hlk hR hK hA σ H locs ls (lv_sub hl [0] rfl) hO hw
  · have hw := hw.2 hc9
    refine lv_aload_n X.1 X.2.1 dX3_readClassOrNone_11 rfl (lv_at hl 0 rfl) ?_
    obtain ⟨g12, hw⟩ := hw
    refine cf_X3_bytes X fX3_X3_bytes hK hO g12 dX3_readClassOrNone_12 ?_
    refine lv_aload_n X.1 X.2.1 dX3_readClassOrNone_15 rfl (lv_at hl 0 rfl) ?_
    refine cf_X3_place X fX3_X3_place hK hO dX3_readClassOrNone_16 ?_
    obtain ⟨g19, hw⟩ := hw
    refine ca_1 X.1 X.2.1 hK hO g19 dX3_readClassOrNone_19 ?_
    refine lv_if_ne (tgt := 35) X.1 X.2.1 dX3_readClassOrNone_20 rfl (fun hc9 => ?_) (fun hc9 => ?_)
    · have hw := hw.1 hc9
      exact cB_X3_readClassOrNone_35 X hr hlk hR hK hA σ H locs ls (lv_sub hl [0] rfl) hO hw
    · have hw := hw.2 hc9
      refine lv_aload_n X.1 X.2.1 dX3_readClassOrNone_23 rfl (lv_at hl 0 rfl) ?_
      refine lv_dup X.1 X.2.1 dX3_readClassOrNone_24 rfl ?_
      refine cf_X3_place X fX3_X3_place hK hO dX3_readClassOrNone_25 ?_
      refine lv_iconst (v := 1) X.1 X.2.1 dX3_readClassOrNone_28 (by decide) ?_
      refine lv_iadd X.1 X.2.1 dX3_readClassOrNone_29 ?_
      refine cp_X3_place X fX3_X3_place hK hO dX3_readClassOrNone_30 (fun H locs hO => ?_)
      obtain ⟨t30, e30⟩ : ∃ z, z = sI σ 5 ((σ.1 5) + (1 : Int32)) := ⟨_, rfl⟩
      have hw := hw t30 e30
      rw [← e30] at hO
      refine lv_iconst (v := -1) X.1 X.2.1 dX3_readClassOrNone_33 (by decide) ?_
      exact W.iret (v := (-1 : Int32)) X.1 X.2.1 hr (fun t ht hW => ⟨⟨(-1 : Int32), t30, rfl, hw, cO_end hO hK ht hW⟩, hO.2.2.F ht⟩) hO.2.2.2.2 dX3_readClassOrNone_34 hlk
def C_X3_readClassOrNone_w (b : Nat → Nat) (k : Nat → ClassId) (Q : Int32 → cS → Prop) (σ : cS) : Prop := C_X3_readClassOrNone_b0 b k Q σ
abbrev rmX3_readClassOrNone : Room := { frames := 2, cells := 0, slots := 0, locals := 45 }
set_option maxHeartbeats 4000000 in
set_option maxRecDepth 100000 in
theorem cC_X3_readClassOrNone (l : Launch) (dC : Nat → ClassId) (dI : Nat → Nat → Nat) (b : Nat → Nat) (k : Nat → ClassId) (σ : cS) (sz : Nat) (Q : Int32 → cS → Prop) (hw : C_X3_readClassOrNone_w b k Q σ) : Met l yX3_readClassOrNone wsX3_readClassOrNone rmX3_readClassOrNone (cPc dC dI b k sz σ [.ref (b 10)]) (va_Qi Q (cAt dC dI (va_A (cCells b k σ) sz) b k) (va_A (cCells b k σ) sz)) 0 0 (va_A (cCells b k σ) sz) := by
  refine Met.ofW (cc := cX3_readClassOrNone) (maxL := 1) (ret := (some .int)) (by decide) rfl ?_
  intro p e s m args below meth c s₁ B hml hv
  obtain ⟨hargs, hsz, hP, hK, hD0⟩ := hv
  have hts := atoms_spec (ws := wsX3_readClassOrNone) B.pre
  have hown : s.vm.findClass RX3 = some m.cls := findClass_of_methodNamed B.named
  subst hsz
  subst hargs
  have hD := hD0.self (sz := s.heap.size)
  generalize hAe : va_A (cCells b k σ) s.heap.size = A at hD ⊢
  have hA : ∀ q : Nat, s.heap.size ≤ q → A q := fun q h => by rw [← hAe]; exact Or.inr h
  have hl := lv_entry ([.ref (b 10)]) (n := 1) (Nat.le_of_ble_eq_true rfl)
  rw [lg_entry_eq]
  generalize (lg_sl ([.ref (b 10)]) ++ List.replicate (1 - (lg_sl ([.ref (b 10)])).length) Slot.unset).toArray = ls at hl ⊢
  have hl : lv_has ls 1 [(0, .ref (b 10))] := hl
  unfold C_X3_readClassOrNone_w at hw
  exact cB_X3_readClassOrNone_0 ⟨B.exec, B.bytes, hml, hown, hts⟩ B.returns B.notSynchronized ⟨Nat.le_of_ble_eq_true rfl, Nat.le_of_ble_eq_true rfl⟩ hK hA σ s.heap [] ls (lv_sub hl [0] rfl) ⟨hP, hD, va_S.rf⟩ hw
def C_X3_readInterfaces_b10_s (b : Nat → Nat) (k : Nat → ClassId) (MC MS : Nat) (Q : Option Nat → cS → Prop) (K10 : Option Nat → Int32 → Nat → Nat → cS → Prop) (x1 : Option Nat) (x2 : Int32) (nc : Nat) (ns : Nat) (σ : cS) : Prop :=
 ∃ (n12 : Nat) (f12 : Nat → Int32), pA σ.2.2.2.2 x1 (k 0) n12 f12 ∧ ((Int32.ofNat n12) ≤ x2 → Q x1 σ) ∧ (¬ (Int32.ofNat n12) ≤ x2 → C_X3_readConstant_w b k (fun r20 t20 => ∃ (a23 j23 n23 : Nat) (f23 : Nat → Int32), x1 = some a23 ∧ t20.2.2.2.2[j23]? = some (a23, .inl (k 0, n23, .inl f23)) ∧ vp_in x2 n23 ∧ ∀ t23 : cS, t23 = sP t20 j23 (a23, .inl (k 0, n23, .inl (upd f23 x2.toNatClampNeg r20))) → ∀ v24 : Int32, v24 = x2 + (1 : Int32) → K10 x1 v24 nc ns t23) (3 : Int32) σ)
def C_X3_readInterfaces_b10_f (b : Nat → Nat) (k : Nat → ClassId) (MC MS : Nat) (Q : Option Nat → cS → Prop) : (Option Nat × Int32 × Nat × Nat × cS → Prop) → Option Nat × Int32 × Nat × Nat × cS → Prop :=
 fun K z => C_X3_readInterfaces_b10_s b k MC MS Q (fun x1 x2 nc ns σ => K (x1, x2, nc, ns, σ)) z.1 z.2.1 z.2.2.1 z.2.2.2.1 z.2.2.2.2
def C_X3_readInterfaces_b10 (b : Nat → Nat) (k : Nat → ClassId) (MC MS : Nat) (Q : Option Nat → cS → Prop) (x1 : Option Nat) (x2 : Int32) (nc : Nat) (ns : Nat) (σ : cS) : Prop := ∃ n, fx (C_X3_readInterfaces_b10_f b k MC MS Q ) n (x1, x2, nc, ns, σ)
set_option maxHeartbeats 4000000 in
set_option maxRecDepth 100000 in
theorem cB_X3_readInterfaces_10 {MC MS : Nat} {Q : Option Nat → cS → Prop} (X : CallFix p m c cX3_readInterfaces 3 s args wsX3_readInterfaces RX3) (hr : meth.sig.returnType = (some (.array .int))) (hlk : meth.locks = false) (hR : 2 ≤ R.frames ∧ 45 ≤ R.locals) (hK : cK dC dI k s) (hA : ∀ q, s.heap.size ≤ q → A q) (hRc : R.cells = MC ∧ R.slots = MS) : ∀ (n : Nat) (x1 : Option Nat) (x2 : Int32) (nc : Nat) (ns : Nat) (σ : cS) (H : Heap) (locs : List Loc) (ls : Array Slot), lv_has ls 3 [(0, .ref (b 10)), (1, va_rf x1), (2, .int x2)] → cO dC dI b k A s.heap σ H locs → (nc ≤ MC ∧ ns ≤ MS) → fx (C_X3_readInterfaces_b10_f b k MC MS Q ) n (x1, x2, nc, ns, σ) → W p l e R s m args below meth c H locs nc ns (MQ below (va_Qq Q (cAt dC dI A b k) A) args s MC MS A) (F0 m 10 ls []) := by
  intro n
  induction n with
  | zero => intro x1 x2 nc ns σ H locs ls hl hO hc hw; exact False.elim hw
  | succ n k10 =>
    intro x1 x2 nc ns σ H locs ls hl hO hc hw
    have hw : C_X3_readInterfaces_b10_s b k MC MS Q (fun x1 x2 nc ns σ => fx (C_X3_readInterfaces_b10_f b k MC MS Q ) n (x1, x2, nc, ns, σ)) x1 x2 nc ns σ := hw
    unfold C_X3_readInterfaces_b10_s at hw
    refine lv_iload_n X.1 X.2.1 dX3_readInterfaces_10 rfl (lv_at hl 2 rfl) ?_
    refine lv_aload_nO X.1 X.2.1 dX3_readInterfaces_11 rfl (lv_at hl 1 rfl) ?_
    obtain ⟨n12, f12, g12, hw⟩ := hw
    refine clenA X.1 X.2.1 hK hO g12 dX3_readInterfaces_12 ?_
    refine lv_icmp_ge (tgt := 30) X.1 X.2.1 dX3_readInterfaces_13 rfl (fun hc9 => ?_) (fun hc9 => ?_)
    · have hw := hw.1 hc9
      refine lv_aload_nO X.1 X.2.1 dX3_readInterfaces_30 rfl (lv_at hl 1 rfl) ?_
      refine W.widen (k := MC) (n := MS) hc.1 hc.2 ?_
      exact W.aret (v := va_rf x1) X.1 X.2.1 hr (Or.inr ⟨_, rfl⟩) (va_rf_or _) (fun t ht hW => ⟨⟨x1, σ, rfl, hw, cO_end hO hK ht hW⟩, hO.2.2.F ht⟩) hO.2.2.2.2 dX3_readInterfaces_31 hlk
    · have hw := hw.2 hc9
      refine lv_aload_nO X.1 X.2.1 dX3_readInterfaces_16 rfl (lv_at hl 1 rfl) ?_
      refine lv_iload_n X.1 X.2.1 dX3_readInterfaces_17 rfl (lv_at hl 2 rfl) ?_
      refine lv_aload_n X.1 X.2.1 dX3_readInterfaces_18 rfl (lv_at hl 0 rfl) ?_
      refine lv_iconst (v := 3) X.1 X.2.1 dX3_readInterfaces_19 (by decide) ?_
      refine c_calli (rest := [.int x2, va_rf x1]) (As := [.int (3 : Int32)]) X (cC_X3_readConstant l dC dI b k σ H.size (3 : Int32) _ hw) (cwV 1 X.2.2.2.2 gX3_X3_readConstant rfl rfl rfl hdX3_readConstant ⟨Nat.le_trans (show 1 + 1 ≤ 2 by decide) hR.1, Nat.le_trans (show 8 + (4 + 11) + 22 ≤ 45 by decide) hR.2⟩) (cRecv_X3 hK hO) hK hA hO rfl hl.1 rfl (by cases x1 <;> exact Nat.le_of_ble_eq_true rfl) dX3_readInterfaces_20 (by rw [hRc.1]; exact hc.1) (by rw [hRc.2]; exact hc.2) (fun r20 t20 H locs hO hw => ?_)
      obtain ⟨a23, j23, n23, f23, g23, q23, k23, hw⟩ := hw
      refine ciastore X.1 X.2.1 hK hO g23 q23 k23 dX3_readInterfaces_23 (fun H locs hO => ?_)
      obtain ⟨t23, e23⟩ : ∃ z, z = sP t20 j23 (a23, .inl (k 0, n23, .inl (upd f23 x2.toNatClampNeg r20))) := ⟨_, rfl⟩
      have hw := hw t23 e23
      rw [← e23] at hO
      obtain ⟨v24, e24⟩ : ∃ z, z = x2 + (1 : Int32) := ⟨_, rfl⟩
      have hw := hw v24 e24
      refine lv_iinc (lv' := [(2, .int v24), (0, .ref (b 10)), (1, va_rf x1)]) (k := 2) (v := v24) X.1 X.2.1 dX3_readInterfaces_24 hl rfl (by rw [e24]; rfl) (by decide) (by cases x1 <;> rfl) (fun ls hl => ?_)
      refine lv_goto (tgt := 10) X.1 X.2.1 dX3_readInterfaces_27 rfl ?_
      exact k10 x1 v24 nc ns t23 H locs ls (lv_sub hl [1, 2, 0] rfl) hO hc hw
def C_X3_readInterfaces_b0 (b : Nat → Nat) (k : Nat → ClassId) (MC MS : Nat) (Q : Option Nat → cS → Prop) (nc : Nat) (ns : Nat) (σ : cS) : Prop :=
 C_X3_readAtMost_w b k (fun r2 t2 => ¬ r2 < 0 ∧ r2.toNatClampNeg ≤ 1000 ∧ nc + 1 ≤ MC ∧ ns + r2.toNatClampNeg ≤ MS ∧ ∀ (q5 : Nat) (t5 : cS), t5 = sN t2 (q5, .inl (k 0, r2.toNatClampNeg, .inl (fun _ => 0))) → C_X3_readInterfaces_b10 b k MC MS Q (some q5) (0 : Int32) (nc + 1) (ns + r2.toNatClampNeg) t5) (4 : Int32) σ
set_option maxHeartbeats 4000000 in
set_option maxRecDepth 100000 in
theorem cB_X3_readInterfaces_0 {MC MS : Nat} {Q : Option Nat → cS → Prop} (X : CallFix p m c cX3_readInterfaces 3 s args wsX3_readInterfaces RX3) (hr : meth.sig.returnType = (some (.array .int))) (hlk : meth.locks = false) (hR : 2 ≤ R.frames ∧ 45 ≤ R.locals) (hK : cK dC dI k s) (hA : ∀ q, s.heap.size ≤ q → A q) (hRc : R.cells = MC ∧ R.slots = MS) (nc : Nat) (ns : Nat) (σ : cS) (H : Heap) (locs : List Loc) (ls : Array Slot) (hl : lv_has ls 3 [(0, .ref (b 10))]) (hO : cO dC dI b k A s.heap σ H locs) (hc : (nc ≤ MC ∧ ns ≤ MS)) (hw : C_X3_readInterfaces_b0 b k MC MS Q nc ns σ) : W p l e R s m args below meth c H locs nc ns (MQ below (va_Qq Q (cAt dC dI A b k) A) args s MC MS A) (F0 m 0 ls []) := by
  unfold C_X3_readInterfaces_b0 at hw
  refine lv_aload_n X.1 X.2.1 dX3_readInterfaces_0 rfl (lv_at hl 0 rfl) ?_
  refine lv_iconst (v := 4) X.1 X.2.1 dX3_readInterfaces_1 (by decide) ?_
  refine c_calli (rest := []) (As := [.int (4 : Int32)]) X (cC_X3_readAtMost l dC dI b k σ H.size (4 : Int32) _ hw) (cwV 1 X.2.2.2.2 gX3_X3_readAtMost rfl rfl rfl hdX3_readAtMost ⟨Nat.le_trans (show 1 + 1 ≤ 2 by decide) hR.1, Nat.le_trans (show 8 + (4 + 11) + 22 ≤ 45 by decide) hR.2⟩) (cRecv_X3 hK hO) hK hA hO rfl hl.1 rfl (Nat.le_of_ble_eq_true rfl) dX3_readInterfaces_2 (by rw [hRc.1]; exact hc.1) (by rw [hRc.2]; exact hc.2) (fun r2 t2 H locs hO hw => ?_)
  obtain ⟨g5, k5, hc1, hc2, hw⟩ := hw
  have hc : nc + 1 ≤ MC ∧ ns + r2.toNatClampNeg ≤ MS := ⟨hc1, hc2⟩
  refine cnewa X  hK hO hA g5 k5 (by rw [hRc.1]; exact hc.1) (by rw [hRc.2]; exact hc.2) dX3_readInterfaces_5 (fun q5 H hO => ?_)
  obtain ⟨t5, e5⟩ : ∃ z, z = sN t2 (q5, .inl (k 0, r2.toNatClampNeg, .inl (fun _ => 0))) := ⟨_, rfl⟩
  have hw := hw q5 t5 e5
  rw [← e5] at hO
  refine lv_astore_n (lv' := [(1, .ref q5), (0, .ref (b 10))]) X.1 X.2.1 dX3_readInterfaces_7 rfl hl (by decide) rfl (fun ls hl => ?_)
  refine lv_iconst (v := 0) X.1 X.2.1 dX3_readInterfaces_8 (by decide) ?_
  refine lv_istore_n (lv' := [(2, .int (0 : Int32)), (1, .ref q5), (0, .ref (b 10))]) X.1 X.2.1 dX3_readInterfaces_9 rfl hl (by decide) rfl (fun ls hl => ?_)
  obtain ⟨n, hw⟩ := hw
  exact cB_X3_readInterfaces_10 X hr hlk hR hK hA hRc n (some q5) (0 : Int32) (nc + 1) (ns + r2.toNatClampNeg) t5 H locs ls (lv_sub hl [2, 1, 0] rfl) hO hc hw
def C_X3_readInterfaces_w (b : Nat → Nat) (k : Nat → ClassId) (MC MS : Nat) (Q : Option Nat → cS → Prop) (σ : cS) : Prop := C_X3_readInterfaces_b0 b k MC MS Q 0 0 σ
abbrev rmX3_readInterfaces (MC MS : Nat) : Room := { frames := 2, cells := MC, slots := MS, locals := 45 }
set_option maxHeartbeats 4000000 in
set_option maxRecDepth 100000 in
theorem cC_X3_readInterfaces (l : Launch) (dC : Nat → ClassId) (dI : Nat → Nat → Nat) (b : Nat → Nat) (k : Nat → ClassId) (σ : cS) (sz : Nat) (MC MS : Nat) (Q : Option Nat → cS → Prop) (hw : C_X3_readInterfaces_w b k MC MS Q σ) : Met l yX3_readInterfaces wsX3_readInterfaces (rmX3_readInterfaces MC MS) (cPc dC dI b k sz σ [.ref (b 10)]) (va_Qq Q (cAt dC dI (va_A (cCells b k σ) sz) b k) (va_A (cCells b k σ) sz)) MC MS (va_A (cCells b k σ) sz) := by
  refine Met.ofW (cc := cX3_readInterfaces) (maxL := 3) (ret := (some (.array .int))) (by decide) rfl ?_
  intro p e s m args below meth c s₁ B hml hv
  obtain ⟨hargs, hsz, hP, hK, hD0⟩ := hv
  have hts := atoms_spec (ws := wsX3_readInterfaces) B.pre
  have hown : s.vm.findClass RX3 = some m.cls := findClass_of_methodNamed B.named
  subst hsz
  subst hargs
  have hD := hD0.self (sz := s.heap.size)
  generalize hAe : va_A (cCells b k σ) s.heap.size = A at hD ⊢
  have hA : ∀ q : Nat, s.heap.size ≤ q → A q := fun q h => by rw [← hAe]; exact Or.inr h
  have hl := lv_entry ([.ref (b 10)]) (n := 3) (Nat.le_of_ble_eq_true rfl)
  rw [lg_entry_eq]
  generalize (lg_sl ([.ref (b 10)]) ++ List.replicate (3 - (lg_sl ([.ref (b 10)])).length) Slot.unset).toArray = ls at hl ⊢
  have hl : lv_has ls 3 [(0, .ref (b 10))] := hl
  unfold C_X3_readInterfaces_w at hw
  exact cB_X3_readInterfaces_0 ⟨B.exec, B.bytes, hml, hown, hts⟩ B.returns B.notSynchronized ⟨Nat.le_of_ble_eq_true rfl, Nat.le_of_ble_eq_true rfl⟩ hK hA ⟨rfl, rfl⟩ 0 0 σ s.heap [] ls (lv_sub hl [0] rfl) ⟨hP, hD, va_S.rf⟩ ⟨Nat.zero_le _, Nat.zero_le _⟩ hw
def C_X5_init_b0 (b : Nat → Nat) (k : Nat → ClassId) (h : Nat) (Q : cS → Prop) (x1 : Int32) (x2 : Int32) (x3 : Option Nat) (σ : cS) : Prop :=
 ∃ (j6 : Nat) (f6 : List Value), σ.2.2.2.2[j6]? = some (h, .inr (5, f6)) ∧ 0 < f6.length ∧ ∀ t6 : cS, t6 = sP σ j6 (h, .inr (5, f6.set 0 (.int x1))) → ∃ (j11 : Nat) (f11 : List Value), t6.2.2.2.2[j11]? = some (h, .inr (5, f11)) ∧ 1 < f11.length ∧ ∀ t11 : cS, t11 = sP t6 j11 (h, .inr (5, f11.set 1 (.int x2))) → ∃ (j16 : Nat) (f16 : List Value), t11.2.2.2.2[j16]? = some (h, .inr (5, f16)) ∧ 2 < f16.length ∧ ∀ t16 : cS, t16 = sP t11 j16 (h, .inr (5, f16.set 2 (va_rf x3))) → Q t16
set_option maxHeartbeats 4000000 in
set_option maxRecDepth 100000 in
theorem cB_X5_init_0 {h : Nat} {Q : cS → Prop} (X : CallFix p m c cX5_init 4 s args wsX5_init RX5) (hr : meth.sig.returnType = none) (hlk : meth.locks = false) (hR : 1 ≤ R.frames ∧ 20 ≤ R.locals) (hK : cK dC dI k s) (hA : ∀ q, s.heap.size ≤ q → A q) (hin0 : meth.name = "<init>") (x1 : Int32) (x2 : Int32) (x3 : Option Nat) (σ : cS) (H : Heap) (locs : List Loc) (ls : Array Slot) (hl : lv_has ls 4 [(0, .ref h), (1, .int x1), (2, .int x2), (3, va_rf x3)]) (hO : cO dC dI b k A s.heap σ H locs) (hw : C_X5_init_b0 b k h Q x1 x2 x3 σ) : W p l e R s m args below meth c H locs 0 0 (MQ below (va_Qv Q (cAt dC dI A b k) A) args s 0 0 A) (F0 m 0 ls []) := by
  unfold C_X5_init_b0 at hw
  refine lv_aload_n X.1 X.2.1 dX5_init_0 rfl (lv_at hl 0 rfl) ?_
  refine W.objInit X.1 X.2.1 X.2.2.2.1 (X.2.2.2.2 _ (List.mem_cons_of_mem _ oX5_link)) (X.2.2.2.2 _ (List.mem_cons_of_mem _ oInst)) (X.2.2.2.2 _ (List.mem_cons_of_mem _ oCode)) rfl (by rw [X.2.2.1]; exact hl.1) rfl dX5_init_1 (Nat.le_trans (by decide) hR.1) (Nat.le_trans (Nat.le_of_ble_eq_true rfl) hR.2) ?_
  refine W.eq (g2 := F0 m 4 ls []) rfl ?_
  refine lv_aload_n X.1 X.2.1 dX5_init_4 rfl (lv_at hl 0 rfl) ?_
  refine lv_iload_n X.1 X.2.1 dX5_init_5 rfl (lv_at hl 1 rfl) ?_
  obtain ⟨j6, f6, g6, k6, hw⟩ := hw
  refine cw_X5_kind X fX5_X5_kind hK hO hin0 g6 k6 dX5_init_6 (fun H locs hO => ?_)
  obtain ⟨t6, e6⟩ : ∃ z, z = sP σ j6 (h, .inr (5, f6.set 0 (.int x1))) := ⟨_, rfl⟩
  have hw := hw t6 e6
  rw [← e6] at hO
  refine lv_aload_n X.1 X.2.1 dX5_init_9 rfl (lv_at hl 0 rfl) ?_
  refine lv_iload_n X.1 X.2.1 dX5_init_10 rfl (lv_at hl 2 rfl) ?_
  obtain ⟨j11, f11, g11, k11, hw⟩ := hw
  refine cw_X5_number X fX5_X5_number hK hO hin0 g11 k11 dX5_init_11 (fun H locs hO => ?_)
  obtain ⟨t11, e11⟩ : ∃ z, z = sP t6 j11 (h, .inr (5, f11.set 1 (.int x2))) := ⟨_, rfl⟩
  have hw := hw t11 e11
  rw [← e11] at hO
  refine lv_aload_n X.1 X.2.1 dX5_init_14 rfl (lv_at hl 0 rfl) ?_
  refine lv_aload_nO X.1 X.2.1 dX5_init_15 rfl (lv_at hl 3 rfl) ?_
  obtain ⟨j16, f16, g16, k16, hw⟩ := hw
  refine cw_X5_parts (o := x3) X fX5_X5_parts hK hO hin0 g16 k16 dX5_init_16 (fun H locs hO => ?_)
  obtain ⟨t16, e16⟩ : ∃ z, z = sP t11 j16 (h, .inr (5, f16.set 2 (va_rf x3))) := ⟨_, rfl⟩
  have hw := hw t16 e16
  rw [← e16] at hO
  exact W.vret X.1 X.2.1 hr (fun t ht hW => ⟨⟨t16, rfl, hw, cO_end hO hK ht hW⟩, hO.2.2.F ht⟩) hO.2.2.2.2 dX5_init_19 hlk
def C_X5_init_w (b : Nat → Nat) (k : Nat → ClassId) (h : Nat) (Q : cS → Prop) (x1 : Int32) (x2 : Int32) (x3 : Option Nat) (σ : cS) : Prop := C_X5_init_b0 b k h Q x1 x2 x3 σ
abbrev rmX5_init : Room := { frames := 1, cells := 0, slots := 0, locals := 20 }
set_option maxHeartbeats 4000000 in
set_option maxRecDepth 100000 in
theorem cC_X5_init (l : Launch) (dC : Nat → ClassId) (dI : Nat → Nat → Nat) (b : Nat → Nat) (k : Nat → ClassId) (σ : cS) (sz : Nat) (h : Nat) (x1 : Int32) (x2 : Int32) (x3 : Option Nat) (Q : cS → Prop) (hw : C_X5_init_w b k h Q x1 x2 x3 σ) : Met l yX5_init wsX5_init rmX5_init (cPc dC dI b k sz σ [.ref h, .int x1, .int x2, va_rf x3]) (va_Qv Q (cAt dC dI (va_A (cCells b k σ) sz) b k) (va_A (cCells b k σ) sz)) 0 0 (va_A (cCells b k σ) sz) := by
  refine Met.ofW (cc := cX5_init) (maxL := 4) (ret := none) (by decide) rfl ?_
  intro p e s m args below meth c s₁ B hml hv
  obtain ⟨hargs, hsz, hP, hK, hD0⟩ := hv
  have hts := atoms_spec (ws := wsX5_init) B.pre
  have hown : s.vm.findClass RX5 = some m.cls := findClass_of_methodNamed B.named
  subst hsz
  subst hargs
  have hD := hD0.self (sz := s.heap.size)
  generalize hAe : va_A (cCells b k σ) s.heap.size = A at hD ⊢
  have hA : ∀ q : Nat, s.heap.size ≤ q → A q := fun q h => by rw [← hAe]; exact Or.inr h
  have hl := lv_entry ([.ref h, .int x1, .int x2, va_rf x3]) (n := 4) (by cases x3 <;> exact Nat.le_of_ble_eq_true rfl)
  rw [lg_entry_eq]
  generalize (lg_sl ([.ref h, .int x1, .int x2, va_rf x3]) ++ List.replicate (4 - (lg_sl ([.ref h, .int x1, .int x2, va_rf x3])).length) Slot.unset).toArray = ls at hl ⊢
  have e9 : lv_args 0 ([.ref h, .int x1, .int x2, va_rf x3]) = [(0, .ref h), (1, .int x1), (2, .int x2), (3, va_rf x3)] := by cases x3 <;> rfl
  have hl : lv_has ls 4 [(0, .ref h), (1, .int x1), (2, .int x2), (3, va_rf x3)] := by rw [← e9]; exact hl
  unfold C_X5_init_w at hw
  exact cB_X5_init_0 ⟨B.exec, B.bytes, hml, hown, hts⟩ B.returns B.notSynchronized ⟨Nat.le_of_ble_eq_true rfl, Nat.le_of_ble_eq_true rfl⟩ hK hA (name_of_methodNamed B.named B.method).1 x1 x2 x3 σ s.heap [] ls (lv_sub hl [0, 1, 2, 3] rfl) ⟨hP, hD, va_S.rf⟩ hw
def C_X4_letterOf_b28 (b : Nat → Nat) (k : Nat → ClassId) (Q : Int32 → cS → Prop) (y0 : Int32) (σ : cS) : Prop :=
 Q y0 σ
set_option maxHeartbeats 4000000 in
set_option maxRecDepth 100000 in
theorem cB_X4_letterOf_28 {Q : Int32 → cS → Prop} (X : CallFix p m c cX4_letterOf 3 s args wsX4_letterOf RX4) (hr : meth.sig.returnType = (some .int)) (hlk : meth.locks = false) (hR : 2 ≤ R.frames ∧ 42 ≤ R.locals) (hK : cK dC dI k s) (hA : ∀ q, s.heap.size ≤ q → A q) (y0 : Int32) (σ : cS) (H : Heap) (locs : List Loc) (ls : Array Slot) (hl : lv_has ls 3 [(0, .ref (b 2))]) (hO : cO dC dI b k A s.heap σ H locs) (hw : C_X4_letterOf_b28 b k Q y0 σ) : W p l e R s m args below meth c H locs 0 0 (MQ below (va_Qi Q (cAt dC dI A b k) A) args s 0 0 A) (F0 m 28 ls [.int y0]) := by
  unfold C_X4_letterOf_b28 at hw
  exact W.iret (v := y0) X.1 X.2.1 hr (fun t ht hW => ⟨⟨y0, σ, rfl, hw, cO_end hO hK ht hW⟩, hO.2.2.F ht⟩) hO.2.2.2.2 dX4_letterOf_28 hlk
def C_X4_letterOf_b27 (b : Nat → Nat) (k : Nat → ClassId) (Q : Int32 → cS → Prop) (σ : cS) : Prop :=
 C_X4_letterOf_b28 b k Q (0 : Int32) σ
set_option maxHeartbeats 4000000 in
set_option maxRecDepth 100000 in
theorem cB_X4_letterOf_27 {Q : Int32 → cS → Prop} (X : CallFix p m c cX4_letterOf 3 s args wsX4_letterOf RX4) (hr : meth.sig.returnType = (some .int)) (hlk : meth.locks = false) (hR : 2 ≤ R.frames ∧ 42 ≤ R.locals) (hK : cK dC dI k s) (hA : ∀ q, s.heap.size ≤ q → A q) (σ : cS) (H : Heap) (locs : List Loc) (ls : Array Slot) (hl : lv_has ls 3 [(0, .ref (b 2))]) (hO : cO dC dI b k A s.heap σ H locs) (hw : C_X4_letterOf_b27 b k Q σ) : W p l e R s m args below meth c H locs 0 0 (MQ below (va_Qi Q (cAt dC dI A b k) A) args s 0 0 A) (F0 m 27 ls []) := by
  unfold C_X4_letterOf_b27 at hw
  refine lv_iconst (v := 0) X.1 X.2.1 dX4_letterOf_27 (by decide) ?_
  exact cB_X4_letterOf_28 X hr hlk hR hK hA (0 : Int32) σ H locs ls (lv_sub hl [0] rfl) hO hw
def C_X4_letterOf_b0 (b : Nat → Nat) (k : Nat → ClassId) (Q : Int32 → cS → Prop) (x1 : Int32) (x2 : Int32) (σ : cS) : Prop :=
 (x2 < 0 → C_X4_letterOf_b27 b k Q σ) ∧ (¬ x2 < 0 → C_X4_lengthOf_w b k (fun r7 t7 => (r7 ≤ x2 → C_X4_letterOf_b27 b k Q t7) ∧ (¬ r7 ≤ x2 → vp_in ((x1 * (10 : Int32)) + x2) 1920 ∧ C_X4_letterOf_b28 b k Q (t7.2.1 1 ((x1 * (10 : Int32)) + x2).toNatClampNeg) t7)) x1 σ)
set_option maxHeartbeats 4000000 in
set_option maxRecDepth 100000 in
theorem cB_X4_letterOf_0 {Q : Int32 → cS → Prop} (X : CallFix p m c cX4_letterOf 3 s args wsX4_letterOf RX4) (hr : meth.sig.returnType = (some .int)) (hlk : meth.locks = false) (hR : 2 ≤ R.frames ∧ 42 ≤ R.locals) (hK : cK dC dI k s) (hA : ∀ q, s.heap.size ≤ q → A q) (x1 : Int32) (x2 : Int32) (σ : cS) (H : Heap) (locs : List Loc) (ls : Array Slot) (hl : lv_has ls 3 [(0, .ref (b 2)), (1, .int x1), (2, .int x2)]) (hO : cO dC dI b k A s.heap σ H locs) (hw : C_X4_letterOf_b0 b k Q x1 x2 σ) : W p l e R s m args below meth c H locs 0 0 (MQ below (va_Qi Q (cAt dC dI A b k) A) args s 0 0 A) (F0 m 0 ls []) := by
  unfold C_X4_letterOf_b0 at hw
  refine lv_iload_n X.1 X.2.1 dX4_letterOf_0 rfl (lv_at hl 2 rfl) ?_
  refine lv_if_lt (tgt := 27) X.1 X.2.1 dX4_letterOf_1 rfl (fun hc9 => ?_) (fun hc9 => ?_)
  · have hw := hw.1 hc9
    exact cB_X4_letterOf_27 X hr hlk hR hK hA σ H locs ls (lv_sub hl [0] rfl) hO hw
  · have hw := hw.2 hc9
    refine lv_iload_n X.1 X.2.1 dX4_letterOf_4 rfl (lv_at hl 2 rfl) ?_
    refine lv_aload_n X.1 X.2.1 dX4_letterOf_5 rfl (lv_at hl 0 rfl) ?_
    refine lv_iload_n X.1 X.2.1 dX4_letterOf_6 rfl (lv_at hl 1 rfl) ?_
    refine c_calli (rest := [.int x2]) (As := [.int x1]) X (cC_X4_lengthOf l dC dI b k σ H.size x1 _ hw) (cwV 1 X.2.2.2.2 gX4_X4_lengthOf rfl rfl rfl hdX4_lengthOf ⟨Nat.le_trans (show 1 + 1 ≤ 2 by decide) hR.1, Nat.le_trans (show 8 + (2 + 11) + 21 ≤ 42 by decide) hR.2⟩) (cRecv_X4 hK hO) hK hA hO rfl hl.1 rfl (Nat.le_of_ble_eq_true rfl) dX4_letterOf_7 (Nat.zero_le _) (Nat.zero_le _) (fun r7 t7 H locs hO hw => ?_)
    refine lv_icmp_ge (tgt := 27) X.1 X.2.1 dX4_letterOf_10 rfl (fun hc9 => ?_) (fun hc9 => ?_)
    · have hw := hw.1 hc9
      exact cB_X4_letterOf_27 X hr hlk hR hK hA t7 H locs ls (lv_sub hl [0] rfl) hO hw
    · have hw := hw.2 hc9
      refine lv_aload_n X.1 X.2.1 dX4_letterOf_13 rfl (lv_at hl 0 rfl) ?_
      refine cf_X4_letters X fX4_X4_letters hK hO dX4_letterOf_14 ?_
      refine lv_iload_n X.1 X.2.1 dX4_letterOf_17 rfl (lv_at hl 1 rfl) ?_
      refine lv_bipush (v := 10) X.1 X.2.1 dX4_letterOf_18 (by decide) ?_
      refine lv_imul X.1 X.2.1 dX4_letterOf_20 ?_
      refine lv_iload_n X.1 X.2.1 dX4_letterOf_21 rfl (lv_at hl 2 rfl) ?_
      refine lv_iadd X.1 X.2.1 dX4_letterOf_22 ?_
      obtain ⟨g23, hw⟩ := hw
      refine ca_3 X.1 X.2.1 hK hO g23 dX4_letterOf_23 ?_
      refine lv_goto (tgt := 28) X.1 X.2.1 dX4_letterOf_24 rfl ?_
      exact cB_X4_letterOf_28 X hr hlk hR hK hA (t7.2.1 1 ((x1 * (10 : Int32)) + x2).toNatClampNeg) t7 H locs ls (lv_sub hl [0] rfl) hO hw
def C_X4_letterOf_w (b : Nat → Nat) (k : Nat → ClassId) (Q : Int32 → cS → Prop) (x1 : Int32) (x2 : Int32) (σ : cS) : Prop := C_X4_letterOf_b0 b k Q x1 x2 σ
abbrev rmX4_letterOf : Room := { frames := 2, cells := 0, slots := 0, locals := 42 }
set_option maxHeartbeats 4000000 in
set_option maxRecDepth 100000 in
theorem cC_X4_letterOf (l : Launch) (dC : Nat → ClassId) (dI : Nat → Nat → Nat) (b : Nat → Nat) (k : Nat → ClassId) (σ : cS) (sz : Nat) (x1 : Int32) (x2 : Int32) (Q : Int32 → cS → Prop) (hw : C_X4_letterOf_w b k Q x1 x2 σ) : Met l yX4_letterOf wsX4_letterOf rmX4_letterOf (cPc dC dI b k sz σ [.ref (b 2), .int x1, .int x2]) (va_Qi Q (cAt dC dI (va_A (cCells b k σ) sz) b k) (va_A (cCells b k σ) sz)) 0 0 (va_A (cCells b k σ) sz) := by
  refine Met.ofW (cc := cX4_letterOf) (maxL := 3) (ret := (some .int)) (by decide) rfl ?_
  intro p e s m args below meth c s₁ B hml hv
  obtain ⟨hargs, hsz, hP, hK, hD0⟩ := hv
  have hts := atoms_spec (ws := wsX4_letterOf) B.pre
  have hown : s.vm.findClass RX4 = some m.cls := findClass_of_methodNamed B.named
  subst hsz
  subst hargs
  have hD := hD0.self (sz := s.heap.size)
  generalize hAe : va_A (cCells b k σ) s.heap.size = A at hD ⊢
  have hA : ∀ q : Nat, s.heap.size ≤ q → A q := fun q h => by rw [← hAe]; exact Or.inr h
  have hl := lv_entry ([.ref (b 2), .int x1, .int x2]) (n := 3) (Nat.le_of_ble_eq_true rfl)
  rw [lg_entry_eq]
  generalize (lg_sl ([.ref (b 2), .int x1, .int x2]) ++ List.replicate (3 - (lg_sl ([.ref (b 2), .int x1, .int x2])).length) Slot.unset).toArray = ls at hl ⊢
  have hl : lv_has ls 3 [(0, .ref (b 2)), (1, .int x1), (2, .int x2)] := hl
  unfold C_X4_letterOf_w at hw
  exact cB_X4_letterOf_0 ⟨B.exec, B.bytes, hml, hown, hts⟩ B.returns B.notSynchronized ⟨Nat.le_of_ble_eq_true rfl, Nat.le_of_ble_eq_true rfl⟩ hK hA x1 x2 σ s.heap [] ls (lv_sub hl [0, 1, 2] rfl) ⟨hP, hD, va_S.rf⟩ hw
def C_X4_shrink_b0 (b : Nat → Nat) (k : Nat → ClassId) (Q : cS → Prop) (x1 : Int32) (σ : cS) : Prop :=
 ∀ t2 : cS, t2 = sI σ 1 x1 → Q t2
set_option maxHeartbeats 4000000 in
set_option maxRecDepth 100000 in
theorem cB_X4_shrink_0 {Q : cS → Prop} (X : CallFix p m c cX4_shrink 2 s args wsX4_shrink RX4) (hr : meth.sig.returnType = none) (hlk : meth.locks = false) (hR : 0 ≤ R.frames ∧ 0 ≤ R.locals) (hK : cK dC dI k s) (hA : ∀ q, s.heap.size ≤ q → A q) (x1 : Int32) (σ : cS) (H : Heap) (locs : List Loc) (ls : Array Slot) (hl : lv_has ls 2 [(0, .ref (b 2)), (1, .int x1)]) (hO : cO dC dI b k A s.heap σ H locs) (hw : C_X4_shrink_b0 b k Q x1 σ) : W p l e R s m args below meth c H locs 0 0 (MQ below (va_Qv Q (cAt dC dI A b k) A) args s 0 0 A) (F0 m 0 ls []) := by
  unfold C_X4_shrink_b0 at hw
  refine lv_aload_n X.1 X.2.1 dX4_shrink_0 rfl (lv_at hl 0 rfl) ?_
  refine lv_iload_n X.1 X.2.1 dX4_shrink_1 rfl (lv_at hl 1 rfl) ?_
  refine cp_X4_size X fX4_X4_size hK hO dX4_shrink_2 (fun H locs hO => ?_)
  obtain ⟨t2, e2⟩ : ∃ z, z = sI σ 1 x1 := ⟨_, rfl⟩
  have hw := hw t2 e2
  rw [← e2] at hO
  exact W.vret X.1 X.2.1 hr (fun t ht hW => ⟨⟨t2, rfl, hw, cO_end hO hK ht hW⟩, hO.2.2.F ht⟩) hO.2.2.2.2 dX4_shrink_5 hlk
def C_X4_shrink_w (b : Nat → Nat) (k : Nat → ClassId) (Q : cS → Prop) (x1 : Int32) (σ : cS) : Prop := C_X4_shrink_b0 b k Q x1 σ
abbrev rmX4_shrink : Room := { frames := 0, cells := 0, slots := 0, locals := 0 }
set_option maxHeartbeats 4000000 in
set_option maxRecDepth 100000 in
theorem cC_X4_shrink (l : Launch) (dC : Nat → ClassId) (dI : Nat → Nat → Nat) (b : Nat → Nat) (k : Nat → ClassId) (σ : cS) (sz : Nat) (x1 : Int32) (Q : cS → Prop) (hw : C_X4_shrink_w b k Q x1 σ) : Met l yX4_shrink wsX4_shrink rmX4_shrink (cPc dC dI b k sz σ [.ref (b 2), .int x1]) (va_Qv Q (cAt dC dI (va_A (cCells b k σ) sz) b k) (va_A (cCells b k σ) sz)) 0 0 (va_A (cCells b k σ) sz) := by
  refine Met.ofW (cc := cX4_shrink) (maxL := 2) (ret := none) (by decide) rfl ?_
  intro p e s m args below meth c s₁ B hml hv
  obtain ⟨hargs, hsz, hP, hK, hD0⟩ := hv
  have hts := atoms_spec (ws := wsX4_shrink) B.pre
  have hown : s.vm.findClass RX4 = some m.cls := findClass_of_methodNamed B.named
  subst hsz
  subst hargs
  have hD := hD0.self (sz := s.heap.size)
  generalize hAe : va_A (cCells b k σ) s.heap.size = A at hD ⊢
  have hA : ∀ q : Nat, s.heap.size ≤ q → A q := fun q h => by rw [← hAe]; exact Or.inr h
  have hl := lv_entry ([.ref (b 2), .int x1]) (n := 2) (Nat.le_of_ble_eq_true rfl)
  rw [lg_entry_eq]
  generalize (lg_sl ([.ref (b 2), .int x1]) ++ List.replicate (2 - (lg_sl ([.ref (b 2), .int x1])).length) Slot.unset).toArray = ls at hl ⊢
  have hl : lv_has ls 2 [(0, .ref (b 2)), (1, .int x1)] := hl
  unfold C_X4_shrink_w at hw
  exact cB_X4_shrink_0 ⟨B.exec, B.bytes, hml, hown, hts⟩ B.returns B.notSynchronized ⟨Nat.le_of_ble_eq_true rfl, Nat.le_of_ble_eq_true rfl⟩ hK hA x1 σ s.heap [] ls (lv_sub hl [0, 1] rfl) ⟨hP, hD, va_S.rf⟩ hw
def C_X5_answer_b0 (b : Nat → Nat) (k : Nat → ClassId) (h : Nat) (Q : Int64 → cS → Prop) (σ : cS) : Prop :=
 ∃ v1 : Int32, pI σ.2.2.2.2 (some h) 5 0 v1 ∧ ∃ v9 : Int32, pI σ.2.2.2.2 (some h) 5 1 v9 ∧ Q (((v1.toInt64) <<< ((32 : Int32).toInt64 &&& 63)) + ((v9.toInt64) &&& (4294967295 : Int64))) σ
set_option maxHeartbeats 4000000 in
set_option maxRecDepth 100000 in
theorem cB_X5_answer_0 {h : Nat} {Q : Int64 → cS → Prop} (X : CallFix p m c cX5_answer 1 s args wsX5_answer RX5) (hr : meth.sig.returnType = (some .long)) (hlk : meth.locks = false) (hR : 0 ≤ R.frames ∧ 0 ≤ R.locals) (hK : cK dC dI k s) (hA : ∀ q, s.heap.size ≤ q → A q) (σ : cS) (H : Heap) (locs : List Loc) (ls : Array Slot) (hl : lv_has ls 1 [(0, .ref h)]) (hO : cO dC dI b k A s.heap σ H locs) (hw : C_X5_answer_b0 b k h Q σ) : W p l e R s m args below meth c H locs 0 0 (MQ below (va_Ql Q (cAt dC dI A b k) A) args s 0 0 A) (F0 m 0 ls []) := by
  unfold C_X5_answer_b0 at hw
  refine lv_aload_n X.1 X.2.1 dX5_answer_0 rfl (lv_at hl 0 rfl) ?_
  obtain ⟨v1, g1, hw⟩ := hw
  refine cg_X5_kind X fX5_X5_kind hK hO g1 dX5_answer_1 ?_
  refine lv_i2l X.1 X.2.1 dX5_answer_4 rfl ?_
  refine lv_bipush (v := 32) X.1 X.2.1 dX5_answer_5 (by decide) ?_
  refine lv_lshl X.1 X.2.1 dX5_answer_7 rfl ?_
  refine lv_aload_n X.1 X.2.1 dX5_answer_8 rfl (lv_at hl 0 rfl) ?_
  obtain ⟨v9, g9, hw⟩ := hw
  refine cg_X5_number X fX5_X5_number hK hO g9 dX5_answer_9 ?_
  refine lv_i2l X.1 X.2.1 dX5_answer_12 rfl ?_
  refine lv_ldc2 (v := 4294967295) X.1 X.2.1 X.2.2.2.1 (X.2.2.2.2 _ (List.mem_cons_of_mem _ qX5_22)) dX5_answer_13 ?_
  refine lv_land X.1 X.2.1 dX5_answer_16 ?_
  refine lv_ladd X.1 X.2.1 dX5_answer_17 ?_
  exact W.lret (v := (((v1.toInt64) <<< ((32 : Int32).toInt64 &&& 63)) + ((v9.toInt64) &&& (4294967295 : Int64)))) X.1 X.2.1 hr (fun t ht hW => ⟨⟨(((v1.toInt64) <<< ((32 : Int32).toInt64 &&& 63)) + ((v9.toInt64) &&& (4294967295 : Int64))), σ, rfl, hw, cO_end hO hK ht hW⟩, hO.2.2.F ht⟩) hO.2.2.2.2 dX5_answer_18 hlk
def C_X5_answer_w (b : Nat → Nat) (k : Nat → ClassId) (h : Nat) (Q : Int64 → cS → Prop) (σ : cS) : Prop := C_X5_answer_b0 b k h Q σ
abbrev rmX5_answer : Room := { frames := 0, cells := 0, slots := 0, locals := 0 }
set_option maxHeartbeats 4000000 in
set_option maxRecDepth 100000 in
theorem cC_X5_answer (l : Launch) (dC : Nat → ClassId) (dI : Nat → Nat → Nat) (b : Nat → Nat) (k : Nat → ClassId) (σ : cS) (sz : Nat) (h : Nat) (Q : Int64 → cS → Prop) (hw : C_X5_answer_w b k h Q σ) : Met l yX5_answer wsX5_answer rmX5_answer (cPc dC dI b k sz σ [.ref h]) (va_Ql Q (cAt dC dI (va_A (cCells b k σ) sz) b k) (va_A (cCells b k σ) sz)) 0 0 (va_A (cCells b k σ) sz) := by
  refine Met.ofW (cc := cX5_answer) (maxL := 1) (ret := (some .long)) (by decide) rfl ?_
  intro p e s m args below meth c s₁ B hml hv
  obtain ⟨hargs, hsz, hP, hK, hD0⟩ := hv
  have hts := atoms_spec (ws := wsX5_answer) B.pre
  have hown : s.vm.findClass RX5 = some m.cls := findClass_of_methodNamed B.named
  subst hsz
  subst hargs
  have hD := hD0.self (sz := s.heap.size)
  generalize hAe : va_A (cCells b k σ) s.heap.size = A at hD ⊢
  have hA : ∀ q : Nat, s.heap.size ≤ q → A q := fun q h => by rw [← hAe]; exact Or.inr h
  have hl := lv_entry ([.ref h]) (n := 1) (Nat.le_of_ble_eq_true rfl)
  rw [lg_entry_eq]
  generalize (lg_sl ([.ref h]) ++ List.replicate (1 - (lg_sl ([.ref h])).length) Slot.unset).toArray = ls at hl ⊢
  have hl : lv_has ls 1 [(0, .ref h)] := hl
  unfold C_X5_answer_w at hw
  exact cB_X5_answer_0 ⟨B.exec, B.bytes, hml, hown, hts⟩ B.returns B.notSynchronized ⟨Nat.le_of_ble_eq_true rfl, Nat.le_of_ble_eq_true rfl⟩ hK hA σ s.heap [] ls (lv_sub hl [0] rfl) ⟨hP, hD, va_S.rf⟩ hw
def C_X6_put_b22 (b : Nat → Nat) (k : Nat → ClassId) (Q : Int32 → cS → Prop) (σ : cS) : Prop :=
 Q (0 : Int32) σ
set_option maxHeartbeats 4000000 in
set_option maxRecDepth 100000 in
theorem cB_X6_put_22 {Q : Int32 → cS → Prop} (X : CallFix p m c cX6_put 5 s args wsX6_put RX6) (hr : meth.sig.returnType = (some .boolean)) (hlk : meth.locks = false) (hR : 0 ≤ R.frames ∧ 0 ≤ R.locals) (hK : cK dC dI k s) (hA : ∀ q, s.heap.size ≤ q → A q) (σ : cS) (H : Heap) (locs : List Loc) (ls : Array Slot) (hl : lv_has ls 5 [(0, .ref (b 0))]) (hO : cO dC dI b k A s.heap σ H locs) (hw : C_X6_put_b22 b k Q σ) : W p l e R s m args below meth c H locs 0 0 (MQ below (va_Qi Q (cAt dC dI A b k) A) args s 0 0 A) (F0 m 22 ls []) := by
  unfold C_X6_put_b22 at hw
  refine lv_iconst (v := 0) X.1 X.2.1 dX6_put_22 (by decide) ?_
  exact W.zret (v := (0 : Int32)) X.1 X.2.1 hr rfl (fun t ht hW => ⟨⟨(0 : Int32), σ, rfl, hw, cO_end hO hK ht hW⟩, hO.2.2.F ht⟩) hO.2.2.2.2 dX6_put_23 hlk
def C_X6_put_b29_s (b : Nat → Nat) (k : Nat → ClassId) (Q : Int32 → cS → Prop) (K29 : Int64 → Int32 → cS → Prop) (x1 : Int64) (x4 : Int32) (σ : cS) : Prop :=
 (x4 < 0 → Q (1 : Int32) σ) ∧ (¬ x4 < 0 → vp_in (σ.1 0) 120 ∧ ∀ t54 : cS, t54 = sA σ 0 (σ.1 0) ((((x1.toUInt64 >>> (((8 : Int32) * x4).toInt64.toUInt64 &&& Int64.toUInt64 63)).toInt64).toInt32) &&& (255 : Int32)) → ∀ t62 : cS, t62 = sI t54 0 ((t54.1 0) + (1 : Int32)) → ∀ v65 : Int32, v65 = x4 + (-1 : Int32) → K29 x1 v65 t62)
def C_X6_put_b29_f (b : Nat → Nat) (k : Nat → ClassId) (Q : Int32 → cS → Prop) : (Int64 × Int32 × cS → Prop) → Int64 × Int32 × cS → Prop :=
 fun K z => C_X6_put_b29_s b k Q (fun x1 x4 σ => K (x1, x4, σ)) z.1 z.2.1 z.2.2
def C_X6_put_b29 (b : Nat → Nat) (k : Nat → ClassId) (Q : Int32 → cS → Prop) (x1 : Int64) (x4 : Int32) (σ : cS) : Prop := ∃ n, fx (C_X6_put_b29_f b k Q ) n (x1, x4, σ)
set_option maxHeartbeats 4000000 in
set_option maxRecDepth 100000 in
theorem cB_X6_put_29 {Q : Int32 → cS → Prop} (X : CallFix p m c cX6_put 5 s args wsX6_put RX6) (hr : meth.sig.returnType = (some .boolean)) (hlk : meth.locks = false) (hR : 0 ≤ R.frames ∧ 0 ≤ R.locals) (hK : cK dC dI k s) (hA : ∀ q, s.heap.size ≤ q → A q) : ∀ (n : Nat) (x1 : Int64) (x4 : Int32) (σ : cS) (H : Heap) (locs : List Loc) (ls : Array Slot), lv_has ls 5 [(0, .ref (b 0)), (1, .long x1), (4, .int x4)] → cO dC dI b k A s.heap σ H locs → fx (C_X6_put_b29_f b k Q ) n (x1, x4, σ) → W p l e R s m args below meth c H locs 0 0 (MQ below (va_Qi Q (cAt dC dI A b k) A) args s 0 0 A) (F0 m 29 ls []) := by
  intro n
  induction n with
  | zero => intro x1 x4 σ H locs ls hl hO hw; exact False.elim hw
  | succ n k29 =>
    intro x1 x4 σ H locs ls hl hO hw
    have hw : C_X6_put_b29_s b k Q (fun x1 x4 σ => fx (C_X6_put_b29_f b k Q ) n (x1, x4, σ)) x1 x4 σ := hw
    unfold C_X6_put_b29_s at hw
    refine lv_iload X.1 X.2.1 dX6_put_29 (lv_at hl 2 rfl) ?_
    refine lv_if_lt (tgt := 71) X.1 X.2.1 dX6_put_31 rfl (fun hc9 => ?_) (fun hc9 => ?_)
    · have hw := hw.1 hc9
      refine lv_iconst (v := 1) X.1 X.2.1 dX6_put_71 (by decide) ?_
      exact W.zret (v := (1 : Int32)) X.1 X.2.1 hr rfl (fun t ht hW => ⟨⟨(1 : Int32), σ, rfl, hw, cO_end hO hK ht hW⟩, hO.2.2.F ht⟩) hO.2.2.2.2 dX6_put_72 hlk
    · have hw := hw.2 hc9
      refine lv_aload_n X.1 X.2.1 dX6_put_34 rfl (lv_at hl 0 rfl) ?_
      refine cf_X6_buffer X fX6_X6_buffer hK hO dX6_put_35 ?_
      refine lv_aload_n X.1 X.2.1 dX6_put_38 rfl (lv_at hl 0 rfl) ?_
      refine cf_X6_held X fX6_X6_held hK hO dX6_put_39 ?_
      refine lv_lload_n X.1 X.2.1 dX6_put_42 rfl (lv_at hl 1 rfl) ?_
      refine lv_bipush (v := 8) X.1 X.2.1 dX6_put_43 (by decide) ?_
      refine lv_iload X.1 X.2.1 dX6_put_45 (lv_at hl 2 rfl) ?_
      refine lv_imul X.1 X.2.1 dX6_put_47 ?_
      refine lv_lushr X.1 X.2.1 dX6_put_48 rfl ?_
      refine lv_l2i X.1 X.2.1 dX6_put_49 rfl ?_
      refine lv_sipush (v := 255) X.1 X.2.1 dX6_put_50 (by decide) ?_
      refine lv_iand X.1 X.2.1 dX6_put_53 ?_
      obtain ⟨g54, hw⟩ := hw
      refine cs_1 X.1 X.2.1 hK hO g54 dX6_put_54 (fun H locs hO => ?_)
      obtain ⟨t54, e54⟩ : ∃ z, z = sA σ 0 (σ.1 0) ((((x1.toUInt64 >>> (((8 : Int32) * x4).toInt64.toUInt64 &&& Int64.toUInt64 63)).toInt64).toInt32) &&& (255 : Int32)) := ⟨_, rfl⟩
      have hw := hw t54 e54
      rw [← e54] at hO
      refine lv_aload_n X.1 X.2.1 dX6_put_55 rfl (lv_at hl 0 rfl) ?_
      refine lv_dup X.1 X.2.1 dX6_put_56 rfl ?_
      refine cf_X6_held X fX6_X6_held hK hO dX6_put_57 ?_
      refine lv_iconst (v := 1) X.1 X.2.1 dX6_put_60 (by decide) ?_
      refine lv_iadd X.1 X.2.1 dX6_put_61 ?_
      refine cp_X6_held X fX6_X6_held hK hO dX6_put_62 (fun H locs hO => ?_)
      obtain ⟨t62, e62⟩ : ∃ z, z = sI t54 0 ((t54.1 0) + (1 : Int32)) := ⟨_, rfl⟩
      have hw := hw t62 e62
      rw [← e62] at hO
      obtain ⟨v65, e65⟩ : ∃ z, z = x4 + (-1 : Int32) := ⟨_, rfl⟩
      have hw := hw v65 e65
      refine lv_iinc (lv' := [(4, .int v65), (0, .ref (b 0)), (1, .long x1)]) (k := 2) (v := v65) X.1 X.2.1 dX6_put_65 hl rfl (by rw [e65]; rfl) (by decide) rfl (fun ls hl => ?_)
      refine lv_goto (tgt := 29) X.1 X.2.1 dX6_put_68 rfl ?_
      exact k29 x1 v65 t62 H locs ls (lv_sub hl [1, 2, 0] rfl) hO hw
def C_X6_put_b0 (b : Nat → Nat) (k : Nat → ClassId) (Q : Int32 → cS → Prop) (x1 : Int64) (x3 : Int32) (σ : cS) : Prop :=
 (x3 < (1 : Int32) → C_X6_put_b22 b k Q σ) ∧ (¬ x3 < (1 : Int32) → ((8 : Int32) < x3 → C_X6_put_b22 b k Q σ) ∧ (¬ (8 : Int32) < x3 → (((σ.1 0) + x3) ≤ (120 : Int32) → ∀ v27 : Int32, v27 = (x3 - (1 : Int32)) → C_X6_put_b29 b k Q x1 v27 σ) ∧ (¬ ((σ.1 0) + x3) ≤ (120 : Int32) → C_X6_put_b22 b k Q σ)))
set_option maxHeartbeats 4000000 in
set_option maxRecDepth 100000 in
theorem cB_X6_put_0 {Q : Int32 → cS → Prop} (X : CallFix p m c cX6_put 5 s args wsX6_put RX6) (hr : meth.sig.returnType = (some .boolean)) (hlk : meth.locks = false) (hR : 0 ≤ R.frames ∧ 0 ≤ R.locals) (hK : cK dC dI k s) (hA : ∀ q, s.heap.size ≤ q → A q) (x1 : Int64) (x3 : Int32) (σ : cS) (H : Heap) (locs : List Loc) (ls : Array Slot) (hl : lv_has ls 5 [(0, .ref (b 0)), (1, .long x1), (3, .int x3)]) (hO : cO dC dI b k A s.heap σ H locs) (hw : C_X6_put_b0 b k Q x1 x3 σ) : W p l e R s m args below meth c H locs 0 0 (MQ below (va_Qi Q (cAt dC dI A b k) A) args s 0 0 A) (F0 m 0 ls []) := by
  unfold C_X6_put_b0 at hw
  refine lv_iload_n X.1 X.2.1 dX6_put_0 rfl (lv_at hl 2 rfl) ?_
  refine lv_iconst (v := 1) X.1 X.2.1 dX6_put_1 (by decide) ?_
  refine lv_icmp_lt (tgt := 22) X.1 X.2.1 dX6_put_2 rfl (fun hc9 => ?_) (fun hc9 => ?_)
  · have hw := hw.1 hc9
    exact cB_X6_put_22 X hr hlk hR hK hA σ H locs ls (lv_sub hl [0] rfl) hO hw
  · have hw := hw.2 hc9
    refine lv_iload_n X.1 X.2.1 dX6_put_5 rfl (lv_at hl 2 rfl) ?_
    refine lv_bipush (v := 8) X.1 X.2.1 dX6_put_6 (by decide) ?_
    refine lv_icmp_gt (tgt := 22) X.1 X.2.1 dX6_put_8 rfl (fun hc9 => ?_) (fun hc9 => ?_)
    · have hw := hw.1 hc9
      exact cB_X6_put_22 X hr hlk hR hK hA σ H locs ls (lv_sub hl [0] rfl) hO hw
    · have hw := hw.2 hc9
      refine lv_aload_n X.1 X.2.1 dX6_put_11 rfl (lv_at hl 0 rfl) ?_
      refine cf_X6_held X fX6_X6_held hK hO dX6_put_12 ?_
      refine lv_iload_n X.1 X.2.1 dX6_put_15 rfl (lv_at hl 2 rfl) ?_
      refine lv_iadd X.1 X.2.1 dX6_put_16 ?_
      refine lv_bipush (v := 120) X.1 X.2.1 dX6_put_17 (by decide) ?_
      refine lv_icmp_le (tgt := 24) X.1 X.2.1 dX6_put_19 rfl (fun hc9 => ?_) (fun hc9 => ?_)
      · have hw := hw.1 hc9
        refine lv_iload_n X.1 X.2.1 dX6_put_24 rfl (lv_at hl 2 rfl) ?_
        refine lv_iconst (v := 1) X.1 X.2.1 dX6_put_25 (by decide) ?_
        refine lv_isub X.1 X.2.1 dX6_put_26 ?_
        refine lv_topi (fun v27 e27 => ?_)
        have hw := hw v27 e27
        refine lv_istore (lv' := [(4, .int v27), (0, .ref (b 0)), (1, .long x1), (3, .int x3)]) X.1 X.2.1 dX6_put_27 hl (by decide) rfl (fun ls hl => ?_)
        obtain ⟨n, hw⟩ := hw
        exact cB_X6_put_29 X hr hlk hR hK hA n x1 v27 σ H locs ls (lv_sub hl [1, 2, 0] rfl) hO hw
      · have hw := hw.2 hc9
        exact cB_X6_put_22 X hr hlk hR hK hA σ H locs ls (lv_sub hl [0] rfl) hO hw
def C_X6_put_w (b : Nat → Nat) (k : Nat → ClassId) (Q : Int32 → cS → Prop) (x1 : Int64) (x3 : Int32) (σ : cS) : Prop := C_X6_put_b0 b k Q x1 x3 σ
abbrev rmX6_put : Room := { frames := 0, cells := 0, slots := 0, locals := 0 }
set_option maxHeartbeats 4000000 in
set_option maxRecDepth 100000 in
theorem cC_X6_put (l : Launch) (dC : Nat → ClassId) (dI : Nat → Nat → Nat) (b : Nat → Nat) (k : Nat → ClassId) (σ : cS) (sz : Nat) (x1 : Int64) (x3 : Int32) (Q : Int32 → cS → Prop) (hw : C_X6_put_w b k Q x1 x3 σ) : Met l yX6_put wsX6_put rmX6_put (cPc dC dI b k sz σ [.ref (b 0), .long x1, .int x3]) (va_Qi Q (cAt dC dI (va_A (cCells b k σ) sz) b k) (va_A (cCells b k σ) sz)) 0 0 (va_A (cCells b k σ) sz) := by
  refine Met.ofW (cc := cX6_put) (maxL := 5) (ret := (some .boolean)) (by decide) rfl ?_
  intro p e s m args below meth c s₁ B hml hv
  obtain ⟨hargs, hsz, hP, hK, hD0⟩ := hv
  have hts := atoms_spec (ws := wsX6_put) B.pre
  have hown : s.vm.findClass RX6 = some m.cls := findClass_of_methodNamed B.named
  subst hsz
  subst hargs
  have hD := hD0.self (sz := s.heap.size)
  generalize hAe : va_A (cCells b k σ) s.heap.size = A at hD ⊢
  have hA : ∀ q : Nat, s.heap.size ≤ q → A q := fun q h => by rw [← hAe]; exact Or.inr h
  have hl := lv_entry ([.ref (b 0), .long x1, .int x3]) (n := 5) (Nat.le_of_ble_eq_true rfl)
  rw [lg_entry_eq]
  generalize (lg_sl ([.ref (b 0), .long x1, .int x3]) ++ List.replicate (5 - (lg_sl ([.ref (b 0), .long x1, .int x3])).length) Slot.unset).toArray = ls at hl ⊢
  have hl : lv_has ls 5 [(0, .ref (b 0)), (1, .long x1), (3, .int x3)] := hl
  unfold C_X6_put_w at hw
  exact cB_X6_put_0 ⟨B.exec, B.bytes, hml, hown, hts⟩ B.returns B.notSynchronized ⟨Nat.le_of_ble_eq_true rfl, Nat.le_of_ble_eq_true rfl⟩ hK hA x1 x3 σ s.heap [] ls (lv_sub hl [0, 1, 2] rfl) ⟨hP, hD, va_S.rf⟩ hw
def C_X6_drop_b0 (b : Nat → Nat) (k : Nat → ClassId) (Q : cS → Prop) (σ : cS) : Prop :=
 ∀ t2 : cS, t2 = sI σ 0 (0 : Int32) → Q t2
set_option maxHeartbeats 4000000 in
set_option maxRecDepth 100000 in
theorem cB_X6_drop_0 {Q : cS → Prop} (X : CallFix p m c cX6_drop 1 s args wsX6_drop RX6) (hr : meth.sig.returnType = none) (hlk : meth.locks = false) (hR : 0 ≤ R.frames ∧ 0 ≤ R.locals) (hK : cK dC dI k s) (hA : ∀ q, s.heap.size ≤ q → A q) (σ : cS) (H : Heap) (locs : List Loc) (ls : Array Slot) (hl : lv_has ls 1 [(0, .ref (b 0))]) (hO : cO dC dI b k A s.heap σ H locs) (hw : C_X6_drop_b0 b k Q σ) : W p l e R s m args below meth c H locs 0 0 (MQ below (va_Qv Q (cAt dC dI A b k) A) args s 0 0 A) (F0 m 0 ls []) := by
  unfold C_X6_drop_b0 at hw
  refine lv_aload_n X.1 X.2.1 dX6_drop_0 rfl (lv_at hl 0 rfl) ?_
  refine lv_iconst (v := 0) X.1 X.2.1 dX6_drop_1 (by decide) ?_
  refine cp_X6_held X fX6_X6_held hK hO dX6_drop_2 (fun H locs hO => ?_)
  obtain ⟨t2, e2⟩ : ∃ z, z = sI σ 0 (0 : Int32) := ⟨_, rfl⟩
  have hw := hw t2 e2
  rw [← e2] at hO
  exact W.vret X.1 X.2.1 hr (fun t ht hW => ⟨⟨t2, rfl, hw, cO_end hO hK ht hW⟩, hO.2.2.F ht⟩) hO.2.2.2.2 dX6_drop_5 hlk
def C_X6_drop_w (b : Nat → Nat) (k : Nat → ClassId) (Q : cS → Prop) (σ : cS) : Prop := C_X6_drop_b0 b k Q σ
abbrev rmX6_drop : Room := { frames := 0, cells := 0, slots := 0, locals := 0 }
set_option maxHeartbeats 4000000 in
set_option maxRecDepth 100000 in
theorem cC_X6_drop (l : Launch) (dC : Nat → ClassId) (dI : Nat → Nat → Nat) (b : Nat → Nat) (k : Nat → ClassId) (σ : cS) (sz : Nat) (Q : cS → Prop) (hw : C_X6_drop_w b k Q σ) : Met l yX6_drop wsX6_drop rmX6_drop (cPc dC dI b k sz σ [.ref (b 0)]) (va_Qv Q (cAt dC dI (va_A (cCells b k σ) sz) b k) (va_A (cCells b k σ) sz)) 0 0 (va_A (cCells b k σ) sz) := by
  refine Met.ofW (cc := cX6_drop) (maxL := 1) (ret := none) (by decide) rfl ?_
  intro p e s m args below meth c s₁ B hml hv
  obtain ⟨hargs, hsz, hP, hK, hD0⟩ := hv
  have hts := atoms_spec (ws := wsX6_drop) B.pre
  have hown : s.vm.findClass RX6 = some m.cls := findClass_of_methodNamed B.named
  subst hsz
  subst hargs
  have hD := hD0.self (sz := s.heap.size)
  generalize hAe : va_A (cCells b k σ) s.heap.size = A at hD ⊢
  have hA : ∀ q : Nat, s.heap.size ≤ q → A q := fun q h => by rw [← hAe]; exact Or.inr h
  have hl := lv_entry ([.ref (b 0)]) (n := 1) (Nat.le_of_ble_eq_true rfl)
  rw [lg_entry_eq]
  generalize (lg_sl ([.ref (b 0)]) ++ List.replicate (1 - (lg_sl ([.ref (b 0)])).length) Slot.unset).toArray = ls at hl ⊢
  have hl : lv_has ls 1 [(0, .ref (b 0))] := hl
  unfold C_X6_drop_w at hw
  exact cB_X6_drop_0 ⟨B.exec, B.bytes, hml, hown, hts⟩ B.returns B.notSynchronized ⟨Nat.le_of_ble_eq_true rfl, Nat.le_of_ble_eq_true rfl⟩ hK hA σ s.heap [] ls (lv_sub hl [0] rfl) ⟨hP, hD, va_S.rf⟩ hw
def C_X6_length_b0 (b : Nat → Nat) (k : Nat → ClassId) (Q : Int32 → cS → Prop) (σ : cS) : Prop :=
 Q (σ.1 0) σ
set_option maxHeartbeats 4000000 in
set_option maxRecDepth 100000 in
theorem cB_X6_length_0 {Q : Int32 → cS → Prop} (X : CallFix p m c cX6_length 1 s args wsX6_length RX6) (hr : meth.sig.returnType = (some .int)) (hlk : meth.locks = false) (hR : 0 ≤ R.frames ∧ 0 ≤ R.locals) (hK : cK dC dI k s) (hA : ∀ q, s.heap.size ≤ q → A q) (σ : cS) (H : Heap) (locs : List Loc) (ls : Array Slot) (hl : lv_has ls 1 [(0, .ref (b 0))]) (hO : cO dC dI b k A s.heap σ H locs) (hw : C_X6_length_b0 b k Q σ) : W p l e R s m args below meth c H locs 0 0 (MQ below (va_Qi Q (cAt dC dI A b k) A) args s 0 0 A) (F0 m 0 ls []) := by
  unfold C_X6_length_b0 at hw
  refine lv_aload_n X.1 X.2.1 dX6_length_0 rfl (lv_at hl 0 rfl) ?_
  refine cf_X6_held X fX6_X6_held hK hO dX6_length_1 ?_
  exact W.iret (v := (σ.1 0)) X.1 X.2.1 hr (fun t ht hW => ⟨⟨(σ.1 0), σ, rfl, hw, cO_end hO hK ht hW⟩, hO.2.2.F ht⟩) hO.2.2.2.2 dX6_length_4 hlk
def C_X6_length_w (b : Nat → Nat) (k : Nat → ClassId) (Q : Int32 → cS → Prop) (σ : cS) : Prop := C_X6_length_b0 b k Q σ
abbrev rmX6_length : Room := { frames := 0, cells := 0, slots := 0, locals := 0 }
set_option maxHeartbeats 4000000 in
set_option maxRecDepth 100000 in
theorem cC_X6_length (l : Launch) (dC : Nat → ClassId) (dI : Nat → Nat → Nat) (b : Nat → Nat) (k : Nat → ClassId) (σ : cS) (sz : Nat) (Q : Int32 → cS → Prop) (hw : C_X6_length_w b k Q σ) : Met l yX6_length wsX6_length rmX6_length (cPc dC dI b k sz σ [.ref (b 0)]) (va_Qi Q (cAt dC dI (va_A (cCells b k σ) sz) b k) (va_A (cCells b k σ) sz)) 0 0 (va_A (cCells b k σ) sz) := by
  refine Met.ofW (cc := cX6_length) (maxL := 1) (ret := (some .int)) (by decide) rfl ?_
  intro p e s m args below meth c s₁ B hml hv
  obtain ⟨hargs, hsz, hP, hK, hD0⟩ := hv
  have hts := atoms_spec (ws := wsX6_length) B.pre
  have hown : s.vm.findClass RX6 = some m.cls := findClass_of_methodNamed B.named
  subst hsz
  subst hargs
  have hD := hD0.self (sz := s.heap.size)
  generalize hAe : va_A (cCells b k σ) s.heap.size = A at hD ⊢
  have hA : ∀ q : Nat, s.heap.size ≤ q → A q := fun q h => by rw [← hAe]; exact Or.inr h
  have hl := lv_entry ([.ref (b 0)]) (n := 1) (Nat.le_of_ble_eq_true rfl)
  rw [lg_entry_eq]
  generalize (lg_sl ([.ref (b 0)]) ++ List.replicate (1 - (lg_sl ([.ref (b 0)])).length) Slot.unset).toArray = ls at hl ⊢
  have hl : lv_has ls 1 [(0, .ref (b 0))] := hl
  unfold C_X6_length_w at hw
  exact cB_X6_length_0 ⟨B.exec, B.bytes, hml, hown, hts⟩ B.returns B.notSynchronized ⟨Nat.le_of_ble_eq_true rfl, Nat.le_of_ble_eq_true rfl⟩ hK hA σ s.heap [] ls (lv_sub hl [0] rfl) ⟨hP, hD, va_S.rf⟩ hw
def C_X6_classes_b0 (b : Nat → Nat) (k : Nat → ClassId) (Q : Int32 → cS → Prop) (σ : cS) : Prop :=
 Q (σ.1 2) σ
set_option maxHeartbeats 4000000 in
set_option maxRecDepth 100000 in
theorem cB_X6_classes_0 {Q : Int32 → cS → Prop} (X : CallFix p m c cX6_classes 1 s args wsX6_classes RX6) (hr : meth.sig.returnType = (some .int)) (hlk : meth.locks = false) (hR : 0 ≤ R.frames ∧ 0 ≤ R.locals) (hK : cK dC dI k s) (hA : ∀ q, s.heap.size ≤ q → A q) (σ : cS) (H : Heap) (locs : List Loc) (ls : Array Slot) (hl : lv_has ls 1 [(0, .ref (b 0))]) (hO : cO dC dI b k A s.heap σ H locs) (hw : C_X6_classes_b0 b k Q σ) : W p l e R s m args below meth c H locs 0 0 (MQ below (va_Qi Q (cAt dC dI A b k) A) args s 0 0 A) (F0 m 0 ls []) := by
  unfold C_X6_classes_b0 at hw
  refine lv_aload_n X.1 X.2.1 dX6_classes_0 rfl (lv_at hl 0 rfl) ?_
  refine cf_X6_knownClasses X fX6_X6_knownClasses hK hO dX6_classes_1 ?_
  refine cf_X1_size X fX6_X1_size hK hO dX6_classes_4 ?_
  exact W.iret (v := (σ.1 2)) X.1 X.2.1 hr (fun t ht hW => ⟨⟨(σ.1 2), σ, rfl, hw, cO_end hO hK ht hW⟩, hO.2.2.F ht⟩) hO.2.2.2.2 dX6_classes_7 hlk
def C_X6_classes_w (b : Nat → Nat) (k : Nat → ClassId) (Q : Int32 → cS → Prop) (σ : cS) : Prop := C_X6_classes_b0 b k Q σ
abbrev rmX6_classes : Room := { frames := 0, cells := 0, slots := 0, locals := 0 }
set_option maxHeartbeats 4000000 in
set_option maxRecDepth 100000 in
theorem cC_X6_classes (l : Launch) (dC : Nat → ClassId) (dI : Nat → Nat → Nat) (b : Nat → Nat) (k : Nat → ClassId) (σ : cS) (sz : Nat) (Q : Int32 → cS → Prop) (hw : C_X6_classes_w b k Q σ) : Met l yX6_classes wsX6_classes rmX6_classes (cPc dC dI b k sz σ [.ref (b 0)]) (va_Qi Q (cAt dC dI (va_A (cCells b k σ) sz) b k) (va_A (cCells b k σ) sz)) 0 0 (va_A (cCells b k σ) sz) := by
  refine Met.ofW (cc := cX6_classes) (maxL := 1) (ret := (some .int)) (by decide) rfl ?_
  intro p e s m args below meth c s₁ B hml hv
  obtain ⟨hargs, hsz, hP, hK, hD0⟩ := hv
  have hts := atoms_spec (ws := wsX6_classes) B.pre
  have hown : s.vm.findClass RX6 = some m.cls := findClass_of_methodNamed B.named
  subst hsz
  subst hargs
  have hD := hD0.self (sz := s.heap.size)
  generalize hAe : va_A (cCells b k σ) s.heap.size = A at hD ⊢
  have hA : ∀ q : Nat, s.heap.size ≤ q → A q := fun q h => by rw [← hAe]; exact Or.inr h
  have hl := lv_entry ([.ref (b 0)]) (n := 1) (Nat.le_of_ble_eq_true rfl)
  rw [lg_entry_eq]
  generalize (lg_sl ([.ref (b 0)]) ++ List.replicate (1 - (lg_sl ([.ref (b 0)])).length) Slot.unset).toArray = ls at hl ⊢
  have hl : lv_has ls 1 [(0, .ref (b 0))] := hl
  unfold C_X6_classes_w at hw
  exact cB_X6_classes_0 ⟨B.exec, B.bytes, hml, hown, hts⟩ B.returns B.notSynchronized ⟨Nat.le_of_ble_eq_true rfl, Nat.le_of_ble_eq_true rfl⟩ hK hA σ s.heap [] ls (lv_sub hl [0] rfl) ⟨hP, hD, va_S.rf⟩ hw
def C_X6_texts_b0 (b : Nat → Nat) (k : Nat → ClassId) (Q : Int32 → cS → Prop) (σ : cS) : Prop :=
 Q (σ.1 1) σ
set_option maxHeartbeats 4000000 in
set_option maxRecDepth 100000 in
theorem cB_X6_texts_0 {Q : Int32 → cS → Prop} (X : CallFix p m c cX6_texts 1 s args wsX6_texts RX6) (hr : meth.sig.returnType = (some .int)) (hlk : meth.locks = false) (hR : 0 ≤ R.frames ∧ 0 ≤ R.locals) (hK : cK dC dI k s) (hA : ∀ q, s.heap.size ≤ q → A q) (σ : cS) (H : Heap) (locs : List Loc) (ls : Array Slot) (hl : lv_has ls 1 [(0, .ref (b 0))]) (hO : cO dC dI b k A s.heap σ H locs) (hw : C_X6_texts_b0 b k Q σ) : W p l e R s m args below meth c H locs 0 0 (MQ below (va_Qi Q (cAt dC dI A b k) A) args s 0 0 A) (F0 m 0 ls []) := by
  unfold C_X6_texts_b0 at hw
  refine lv_aload_n X.1 X.2.1 dX6_texts_0 rfl (lv_at hl 0 rfl) ?_
  refine cf_X6_knownTexts X fX6_X6_knownTexts hK hO dX6_texts_1 ?_
  refine cf_X4_size X fX6_X4_size hK hO dX6_texts_4 ?_
  exact W.iret (v := (σ.1 1)) X.1 X.2.1 hr (fun t ht hW => ⟨⟨(σ.1 1), σ, rfl, hw, cO_end hO hK ht hW⟩, hO.2.2.F ht⟩) hO.2.2.2.2 dX6_texts_7 hlk
def C_X6_texts_w (b : Nat → Nat) (k : Nat → ClassId) (Q : Int32 → cS → Prop) (σ : cS) : Prop := C_X6_texts_b0 b k Q σ
abbrev rmX6_texts : Room := { frames := 0, cells := 0, slots := 0, locals := 0 }
set_option maxHeartbeats 4000000 in
set_option maxRecDepth 100000 in
theorem cC_X6_texts (l : Launch) (dC : Nat → ClassId) (dI : Nat → Nat → Nat) (b : Nat → Nat) (k : Nat → ClassId) (σ : cS) (sz : Nat) (Q : Int32 → cS → Prop) (hw : C_X6_texts_w b k Q σ) : Met l yX6_texts wsX6_texts rmX6_texts (cPc dC dI b k sz σ [.ref (b 0)]) (va_Qi Q (cAt dC dI (va_A (cCells b k σ) sz) b k) (va_A (cCells b k σ) sz)) 0 0 (va_A (cCells b k σ) sz) := by
  refine Met.ofW (cc := cX6_texts) (maxL := 1) (ret := (some .int)) (by decide) rfl ?_
  intro p e s m args below meth c s₁ B hml hv
  obtain ⟨hargs, hsz, hP, hK, hD0⟩ := hv
  have hts := atoms_spec (ws := wsX6_texts) B.pre
  have hown : s.vm.findClass RX6 = some m.cls := findClass_of_methodNamed B.named
  subst hsz
  subst hargs
  have hD := hD0.self (sz := s.heap.size)
  generalize hAe : va_A (cCells b k σ) s.heap.size = A at hD ⊢
  have hA : ∀ q : Nat, s.heap.size ≤ q → A q := fun q h => by rw [← hAe]; exact Or.inr h
  have hl := lv_entry ([.ref (b 0)]) (n := 1) (Nat.le_of_ble_eq_true rfl)
  rw [lg_entry_eq]
  generalize (lg_sl ([.ref (b 0)]) ++ List.replicate (1 - (lg_sl ([.ref (b 0)])).length) Slot.unset).toArray = ls at hl ⊢
  have hl : lv_has ls 1 [(0, .ref (b 0))] := hl
  unfold C_X6_texts_w at hw
  exact cB_X6_texts_0 ⟨B.exec, B.bytes, hml, hown, hts⟩ B.returns B.notSynchronized ⟨Nat.le_of_ble_eq_true rfl, Nat.le_of_ble_eq_true rfl⟩ hK hA σ s.heap [] ls (lv_sub hl [0] rfl) ⟨hP, hD, va_S.rf⟩ hw
def C_X6_letter_b24 (b : Nat → Nat) (k : Nat → ClassId) (Q : Int32 → cS → Prop) (y0 : Int32) (σ : cS) : Prop :=
 Q y0 σ
set_option maxHeartbeats 4000000 in
set_option maxRecDepth 100000 in
theorem cB_X6_letter_24 {Q : Int32 → cS → Prop} (X : CallFix p m c cX6_letter 3 s args wsX6_letter RX6) (hr : meth.sig.returnType = (some .int)) (hlk : meth.locks = false) (hR : 3 ≤ R.frames ∧ 64 ≤ R.locals) (hK : cK dC dI k s) (hA : ∀ q, s.heap.size ≤ q → A q) (y0 : Int32) (σ : cS) (H : Heap) (locs : List Loc) (ls : Array Slot) (hl : lv_has ls 3 [(0, .ref (b 0))]) (hO : cO dC dI b k A s.heap σ H locs) (hw : C_X6_letter_b24 b k Q y0 σ) : W p l e R s m args below meth c H locs 0 0 (MQ below (va_Qi Q (cAt dC dI A b k) A) args s 0 0 A) (F0 m 24 ls [.int y0]) := by
  unfold C_X6_letter_b24 at hw
  exact W.iret (v := y0) X.1 X.2.1 hr (fun t ht hW => ⟨⟨y0, σ, rfl, hw, cO_end hO hK ht hW⟩, hO.2.2.F ht⟩) hO.2.2.2.2 dX6_letter_24 hlk
def C_X6_letter_b0 (b : Nat → Nat) (k : Nat → ClassId) (Q : Int32 → cS → Prop) (x1 : Int32) (x2 : Int32) (σ : cS) : Prop :=
 C_X4_has_w b k (fun r5 t5 => (r5 = 0 → C_X6_letter_b24 b k Q (-1 : Int32) t5) ∧ (¬ r5 = 0 → C_X4_letterOf_w b k (fun r17 t17 => C_X6_letter_b24 b k Q r17 t17) x1 x2 t5)) x1 σ
set_option maxHeartbeats 4000000 in
set_option maxRecDepth 100000 in
theorem cB_X6_letter_0 {Q : Int32 → cS → Prop} (X : CallFix p m c cX6_letter 3 s args wsX6_letter RX6) (hr : meth.sig.returnType = (some .int)) (hlk : meth.locks = false) (hR : 3 ≤ R.frames ∧ 64 ≤ R.locals) (hK : cK dC dI k s) (hA : ∀ q, s.heap.size ≤ q → A q) (x1 : Int32) (x2 : Int32) (σ : cS) (H : Heap) (locs : List Loc) (ls : Array Slot) (hl : lv_has ls 3 [(0, .ref (b 0)), (1, .int x1), (2, .int x2)]) (hO : cO dC dI b k A s.heap σ H locs) (hw : C_X6_letter_b0 b k Q x1 x2 σ) : W p l e R s m args below meth c H locs 0 0 (MQ below (va_Qi Q (cAt dC dI A b k) A) args s 0 0 A) (F0 m 0 ls []) := by
  unfold C_X6_letter_b0 at hw
  refine lv_aload_n X.1 X.2.1 dX6_letter_0 rfl (lv_at hl 0 rfl) ?_
  refine cf_X6_knownTexts X fX6_X6_knownTexts hK hO dX6_letter_1 ?_
  refine lv_iload_n X.1 X.2.1 dX6_letter_4 rfl (lv_at hl 1 rfl) ?_
  refine c_calli (rest := []) (As := [.int x1]) X (cC_X4_has l dC dI b k σ H.size x1 _ hw) (cwV 1 X.2.2.2.2 gX6_X4_has rfl rfl rfl hdX4_has ⟨Nat.le_trans (show 0 + 1 ≤ 3 by decide) hR.1, Nat.le_trans (show 8 + (2 + 11) + 0 ≤ 64 by decide) hR.2⟩) (cRecv_X4 hK hO) hK hA hO rfl hl.1 rfl (Nat.le_of_ble_eq_true rfl) dX6_letter_5 (Nat.zero_le _) (Nat.zero_le _) (fun r5 t5 H locs hO hw => ?_)
  refine lv_if_eq (tgt := 23) X.1 X.2.1 dX6_letter_8 rfl (fun hc9 => ?_) (fun hc9 => ?_)
  · have hw := hw.1 hc9
    refine lv_iconst (v := -1) X.1 X.2.1 dX6_letter_23 (by decide) ?_
    exact cB_X6_letter_24 X hr hlk hR hK hA (-1 : Int32) t5 H locs ls (lv_sub hl [0] rfl) hO hw
  · have hw := hw.2 hc9
    refine lv_aload_n X.1 X.2.1 dX6_letter_11 rfl (lv_at hl 0 rfl) ?_
    refine cf_X6_knownTexts X fX6_X6_knownTexts hK hO dX6_letter_12 ?_
    refine lv_iload_n X.1 X.2.1 dX6_letter_15 rfl (lv_at hl 1 rfl) ?_
    refine lv_iload_n X.1 X.2.1 dX6_letter_16 rfl (lv_at hl 2 rfl) ?_
    refine c_calli (rest := []) (As := [.int x1, .int x2]) X (cC_X4_letterOf l dC dI b k t5 H.size x1 x2 _ hw) (cwV 2 X.2.2.2.2 gX6_X4_letterOf rfl rfl rfl hdX4_letterOf ⟨Nat.le_trans (show 2 + 1 ≤ 3 by decide) hR.1, Nat.le_trans (show 8 + (3 + 11) + 42 ≤ 64 by decide) hR.2⟩) (cRecv_X4 hK hO) hK hA hO rfl hl.1 rfl (Nat.le_of_ble_eq_true rfl) dX6_letter_17 (Nat.zero_le _) (Nat.zero_le _) (fun r17 t17 H locs hO hw => ?_)
    refine lv_goto (tgt := 24) X.1 X.2.1 dX6_letter_20 rfl ?_
    exact cB_X6_letter_24 X hr hlk hR hK hA r17 t17 H locs ls (lv_sub hl [0] rfl) hO hw
def C_X6_letter_w (b : Nat → Nat) (k : Nat → ClassId) (Q : Int32 → cS → Prop) (x1 : Int32) (x2 : Int32) (σ : cS) : Prop := C_X6_letter_b0 b k Q x1 x2 σ
abbrev rmX6_letter : Room := { frames := 3, cells := 0, slots := 0, locals := 64 }
set_option maxHeartbeats 4000000 in
set_option maxRecDepth 100000 in
theorem cC_X6_letter (l : Launch) (dC : Nat → ClassId) (dI : Nat → Nat → Nat) (b : Nat → Nat) (k : Nat → ClassId) (σ : cS) (sz : Nat) (x1 : Int32) (x2 : Int32) (Q : Int32 → cS → Prop) (hw : C_X6_letter_w b k Q x1 x2 σ) : Met l yX6_letter wsX6_letter rmX6_letter (cPc dC dI b k sz σ [.ref (b 0), .int x1, .int x2]) (va_Qi Q (cAt dC dI (va_A (cCells b k σ) sz) b k) (va_A (cCells b k σ) sz)) 0 0 (va_A (cCells b k σ) sz) := by
  refine Met.ofW (cc := cX6_letter) (maxL := 3) (ret := (some .int)) (by decide) rfl ?_
  intro p e s m args below meth c s₁ B hml hv
  obtain ⟨hargs, hsz, hP, hK, hD0⟩ := hv
  have hts := atoms_spec (ws := wsX6_letter) B.pre
  have hown : s.vm.findClass RX6 = some m.cls := findClass_of_methodNamed B.named
  subst hsz
  subst hargs
  have hD := hD0.self (sz := s.heap.size)
  generalize hAe : va_A (cCells b k σ) s.heap.size = A at hD ⊢
  have hA : ∀ q : Nat, s.heap.size ≤ q → A q := fun q h => by rw [← hAe]; exact Or.inr h
  have hl := lv_entry ([.ref (b 0), .int x1, .int x2]) (n := 3) (Nat.le_of_ble_eq_true rfl)
  rw [lg_entry_eq]
  generalize (lg_sl ([.ref (b 0), .int x1, .int x2]) ++ List.replicate (3 - (lg_sl ([.ref (b 0), .int x1, .int x2])).length) Slot.unset).toArray = ls at hl ⊢
  have hl : lv_has ls 3 [(0, .ref (b 0)), (1, .int x1), (2, .int x2)] := hl
  unfold C_X6_letter_w at hw
  exact cB_X6_letter_0 ⟨B.exec, B.bytes, hml, hown, hts⟩ B.returns B.notSynchronized ⟨Nat.le_of_ble_eq_true rfl, Nat.le_of_ble_eq_true rfl⟩ hK hA x1 x2 σ s.heap [] ls (lv_sub hl [0, 1, 2] rfl) ⟨hP, hD, va_S.rf⟩ hw
def C_X6_find_b0 (b : Nat → Nat) (k : Nat → ClassId) (Q : Int32 → cS → Prop) (x1 : Int32) (σ : cS) : Prop :=
 C_X1_named_w b k (fun r5 t5 => Q r5 t5) x1 σ
set_option maxHeartbeats 4000000 in
set_option maxRecDepth 100000 in
theorem cB_X6_find_0 {Q : Int32 → cS → Prop} (X : CallFix p m c cX6_find 2 s args wsX6_find RX6) (hr : meth.sig.returnType = (some .int)) (hlk : meth.locks = false) (hR : 1 ≤ R.frames ∧ 21 ≤ R.locals) (hK : cK dC dI k s) (hA : ∀ q, s.heap.size ≤ q → A q) (x1 : Int32) (σ : cS) (H : Heap) (locs : List Loc) (ls : Array Slot) (hl : lv_has ls 2 [(0, .ref (b 0)), (1, .int x1)]) (hO : cO dC dI b k A s.heap σ H locs) (hw : C_X6_find_b0 b k Q x1 σ) : W p l e R s m args below meth c H locs 0 0 (MQ below (va_Qi Q (cAt dC dI A b k) A) args s 0 0 A) (F0 m 0 ls []) := by
  unfold C_X6_find_b0 at hw
  refine lv_aload_n X.1 X.2.1 dX6_find_0 rfl (lv_at hl 0 rfl) ?_
  refine cf_X6_knownClasses X fX6_X6_knownClasses hK hO dX6_find_1 ?_
  refine lv_iload_n X.1 X.2.1 dX6_find_4 rfl (lv_at hl 1 rfl) ?_
  refine c_calli (rest := []) (As := [.int x1]) X (cC_X1_named l dC dI b k σ H.size x1 _ hw) (cwV 1 X.2.2.2.2 gX6_X1_named rfl rfl rfl hdX1_named ⟨Nat.le_trans (show 0 + 1 ≤ 1 by decide) hR.1, Nat.le_trans (show 8 + (2 + 11) + 0 ≤ 21 by decide) hR.2⟩) (cRecv_X1 hK hO) hK hA hO rfl hl.1 rfl (Nat.le_of_ble_eq_true rfl) dX6_find_5 (Nat.zero_le _) (Nat.zero_le _) (fun r5 t5 H locs hO hw => ?_)
  exact W.iret (v := r5) X.1 X.2.1 hr (fun t ht hW => ⟨⟨r5, t5, rfl, hw, cO_end hO hK ht hW⟩, hO.2.2.F ht⟩) hO.2.2.2.2 dX6_find_8 hlk
def C_X6_find_w (b : Nat → Nat) (k : Nat → ClassId) (Q : Int32 → cS → Prop) (x1 : Int32) (σ : cS) : Prop := C_X6_find_b0 b k Q x1 σ
abbrev rmX6_find : Room := { frames := 1, cells := 0, slots := 0, locals := 21 }
set_option maxHeartbeats 4000000 in
set_option maxRecDepth 100000 in
theorem cC_X6_find (l : Launch) (dC : Nat → ClassId) (dI : Nat → Nat → Nat) (b : Nat → Nat) (k : Nat → ClassId) (σ : cS) (sz : Nat) (x1 : Int32) (Q : Int32 → cS → Prop) (hw : C_X6_find_w b k Q x1 σ) : Met l yX6_find wsX6_find rmX6_find (cPc dC dI b k sz σ [.ref (b 0), .int x1]) (va_Qi Q (cAt dC dI (va_A (cCells b k σ) sz) b k) (va_A (cCells b k σ) sz)) 0 0 (va_A (cCells b k σ) sz) := by
  refine Met.ofW (cc := cX6_find) (maxL := 2) (ret := (some .int)) (by decide) rfl ?_
  intro p e s m args below meth c s₁ B hml hv
  obtain ⟨hargs, hsz, hP, hK, hD0⟩ := hv
  have hts := atoms_spec (ws := wsX6_find) B.pre
  have hown : s.vm.findClass RX6 = some m.cls := findClass_of_methodNamed B.named
  subst hsz
  subst hargs
  have hD := hD0.self (sz := s.heap.size)
  generalize hAe : va_A (cCells b k σ) s.heap.size = A at hD ⊢
  have hA : ∀ q : Nat, s.heap.size ≤ q → A q := fun q h => by rw [← hAe]; exact Or.inr h
  have hl := lv_entry ([.ref (b 0), .int x1]) (n := 2) (Nat.le_of_ble_eq_true rfl)
  rw [lg_entry_eq]
  generalize (lg_sl ([.ref (b 0), .int x1]) ++ List.replicate (2 - (lg_sl ([.ref (b 0), .int x1])).length) Slot.unset).toArray = ls at hl ⊢
  have hl : lv_has ls 2 [(0, .ref (b 0)), (1, .int x1)] := hl
  unfold C_X6_find_w at hw
  exact cB_X6_find_0 ⟨B.exec, B.bytes, hml, hown, hts⟩ B.returns B.notSynchronized ⟨Nat.le_of_ble_eq_true rfl, Nat.le_of_ble_eq_true rfl⟩ hK hA x1 σ s.heap [] ls (lv_sub hl [0, 1] rfl) ⟨hP, hD, va_S.rf⟩ hw
def C_X6_name_b27 (b : Nat → Nat) (k : Nat → ClassId) (Q : Int32 → cS → Prop) (y0 : Int32) (σ : cS) : Prop :=
 Q y0 σ
set_option maxHeartbeats 4000000 in
set_option maxRecDepth 100000 in
theorem cB_X6_name_27 {Q : Int32 → cS → Prop} (X : CallFix p m c cX6_name 2 s args wsX6_name RX6) (hr : meth.sig.returnType = (some .int)) (hlk : meth.locks = false) (hR : 1 ≤ R.frames ∧ 21 ≤ R.locals) (hK : cK dC dI k s) (hA : ∀ q, s.heap.size ≤ q → A q) (y0 : Int32) (σ : cS) (H : Heap) (locs : List Loc) (ls : Array Slot) (hl : lv_has ls 2 [(0, .ref (b 0))]) (hO : cO dC dI b k A s.heap σ H locs) (hw : C_X6_name_b27 b k Q y0 σ) : W p l e R s m args below meth c H locs 0 0 (MQ below (va_Qi Q (cAt dC dI A b k) A) args s 0 0 A) (F0 m 27 ls [.int y0]) := by
  unfold C_X6_name_b27 at hw
  exact W.iret (v := y0) X.1 X.2.1 hr (fun t ht hW => ⟨⟨y0, σ, rfl, hw, cO_end hO hK ht hW⟩, hO.2.2.F ht⟩) hO.2.2.2.2 dX6_name_27 hlk
def C_X6_name_b0 (b : Nat → Nat) (k : Nat → ClassId) (Q : Int32 → cS → Prop) (x1 : Int32) (σ : cS) : Prop :=
 C_X1_has_w b k (fun r5 t5 => (r5 = 0 → C_X6_name_b27 b k Q (-1 : Int32) t5) ∧ (¬ r5 = 0 → vp_in x1 16 ∧ ∃ v20 : Int32, pI t5.2.2.2.2 (t5.2.2.1 x1.toNatClampNeg) 0 0 v20 ∧ C_X6_name_b27 b k Q v20 t5)) x1 σ
set_option maxHeartbeats 4000000 in
set_option maxRecDepth 100000 in
theorem cB_X6_name_0 {Q : Int32 → cS → Prop} (X : CallFix p m c cX6_name 2 s args wsX6_name RX6) (hr : meth.sig.returnType = (some .int)) (hlk : meth.locks = false) (hR : 1 ≤ R.frames ∧ 21 ≤ R.locals) (hK : cK dC dI k s) (hA : ∀ q, s.heap.size ≤ q → A q) (x1 : Int32) (σ : cS) (H : Heap) (locs : List Loc) (ls : Array Slot) (hl : lv_has ls 2 [(0, .ref (b 0)), (1, .int x1)]) (hO : cO dC dI b k A s.heap σ H locs) (hw : C_X6_name_b0 b k Q x1 σ) : W p l e R s m args below meth c H locs 0 0 (MQ below (va_Qi Q (cAt dC dI A b k) A) args s 0 0 A) (F0 m 0 ls []) := by
  unfold C_X6_name_b0 at hw
  refine lv_aload_n X.1 X.2.1 dX6_name_0 rfl (lv_at hl 0 rfl) ?_
  refine cf_X6_knownClasses X fX6_X6_knownClasses hK hO dX6_name_1 ?_
  refine lv_iload_n X.1 X.2.1 dX6_name_4 rfl (lv_at hl 1 rfl) ?_
  refine c_calli (rest := []) (As := [.int x1]) X (cC_X1_has l dC dI b k σ H.size x1 _ hw) (cwV 1 X.2.2.2.2 gX6_X1_has rfl rfl rfl hdX1_has ⟨Nat.le_trans (show 0 + 1 ≤ 1 by decide) hR.1, Nat.le_trans (show 8 + (2 + 11) + 0 ≤ 21 by decide) hR.2⟩) (cRecv_X1 hK hO) hK hA hO rfl hl.1 rfl (Nat.le_of_ble_eq_true rfl) dX6_name_5 (Nat.zero_le _) (Nat.zero_le _) (fun r5 t5 H locs hO hw => ?_)
  refine lv_if_eq (tgt := 26) X.1 X.2.1 dX6_name_8 rfl (fun hc9 => ?_) (fun hc9 => ?_)
  · have hw := hw.1 hc9
    refine lv_iconst (v := -1) X.1 X.2.1 dX6_name_26 (by decide) ?_
    exact cB_X6_name_27 X hr hlk hR hK hA (-1 : Int32) t5 H locs ls (lv_sub hl [0] rfl) hO hw
  · have hw := hw.2 hc9
    refine lv_aload_n X.1 X.2.1 dX6_name_11 rfl (lv_at hl 0 rfl) ?_
    refine cf_X6_knownClasses X fX6_X6_knownClasses hK hO dX6_name_12 ?_
    refine cf_X1_files X fX6_X1_files hK hO dX6_name_15 ?_
    refine lv_iload_n X.1 X.2.1 dX6_name_18 rfl (lv_at hl 1 rfl) ?_
    obtain ⟨g19, hw⟩ := hw
    refine ca_6 X.1 X.2.1 hK hO g19 dX6_name_19 ?_
    obtain ⟨v20, g20, hw⟩ := hw
    refine cg_X0_name X fX6_X0_name hK hO g20 dX6_name_20 ?_
    refine lv_goto (tgt := 27) X.1 X.2.1 dX6_name_23 rfl ?_
    exact cB_X6_name_27 X hr hlk hR hK hA v20 t5 H locs ls (lv_sub hl [0] rfl) hO hw
def C_X6_name_w (b : Nat → Nat) (k : Nat → ClassId) (Q : Int32 → cS → Prop) (x1 : Int32) (σ : cS) : Prop := C_X6_name_b0 b k Q x1 σ
abbrev rmX6_name : Room := { frames := 1, cells := 0, slots := 0, locals := 21 }
set_option maxHeartbeats 4000000 in
set_option maxRecDepth 100000 in
theorem cC_X6_name (l : Launch) (dC : Nat → ClassId) (dI : Nat → Nat → Nat) (b : Nat → Nat) (k : Nat → ClassId) (σ : cS) (sz : Nat) (x1 : Int32) (Q : Int32 → cS → Prop) (hw : C_X6_name_w b k Q x1 σ) : Met l yX6_name wsX6_name rmX6_name (cPc dC dI b k sz σ [.ref (b 0), .int x1]) (va_Qi Q (cAt dC dI (va_A (cCells b k σ) sz) b k) (va_A (cCells b k σ) sz)) 0 0 (va_A (cCells b k σ) sz) := by
  refine Met.ofW (cc := cX6_name) (maxL := 2) (ret := (some .int)) (by decide) rfl ?_
  intro p e s m args below meth c s₁ B hml hv
  obtain ⟨hargs, hsz, hP, hK, hD0⟩ := hv
  have hts := atoms_spec (ws := wsX6_name) B.pre
  have hown : s.vm.findClass RX6 = some m.cls := findClass_of_methodNamed B.named
  subst hsz
  subst hargs
  have hD := hD0.self (sz := s.heap.size)
  generalize hAe : va_A (cCells b k σ) s.heap.size = A at hD ⊢
  have hA : ∀ q : Nat, s.heap.size ≤ q → A q := fun q h => by rw [← hAe]; exact Or.inr h
  have hl := lv_entry ([.ref (b 0), .int x1]) (n := 2) (Nat.le_of_ble_eq_true rfl)
  rw [lg_entry_eq]
  generalize (lg_sl ([.ref (b 0), .int x1]) ++ List.replicate (2 - (lg_sl ([.ref (b 0), .int x1])).length) Slot.unset).toArray = ls at hl ⊢
  have hl : lv_has ls 2 [(0, .ref (b 0)), (1, .int x1)] := hl
  unfold C_X6_name_w at hw
  exact cB_X6_name_0 ⟨B.exec, B.bytes, hml, hown, hts⟩ B.returns B.notSynchronized ⟨Nat.le_of_ble_eq_true rfl, Nat.le_of_ble_eq_true rfl⟩ hK hA x1 σ s.heap [] ls (lv_sub hl [0, 1] rfl) ⟨hP, hD, va_S.rf⟩ hw
end
