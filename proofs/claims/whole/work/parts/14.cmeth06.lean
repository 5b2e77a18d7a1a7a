section
variable {p : Program} {l : Launch} {e : Env} {R : Room} {s : State} {m : MethodId} {args : Array Value} {below : List Frame} {meth : Method} {c : Code}
variable {dC : Nat → ClassId} {dI : Nat → Nat → Nat} {b : Nat → Nat} {k : Nat → ClassId} {A : Nat → Prop}
def C_X6_elementOrDefault_b75 (b : Nat → Nat) (k : Nat → ClassId) (Q : Option Nat → cS → Prop) (x5 : Option Nat) (σ : cS) : Prop :=
 Q x5 σ
set_option maxHeartbeats 4000000 in
set_option maxRecDepth 100000 in
theorem cB_X6_elementOrDefault_75 {Q : Option Nat → cS → Prop} (X : CallFix p m c cX6_elementOrDefault 7 s args wsX6_elementOrDefault RX6) (hr : meth.sig.returnType = (some (.object "ClassFileIndex$Value"))) (hlk : meth.locks = false) (hR : 2 ≤ R.frames ∧ 43 ≤ R.locals) (hK : cK dC dI k s) (hA : ∀ q, s.heap.size ≤ q → A q) (x5 : Option Nat) (σ : cS) (H : Heap) (locs : List Loc) (ls : Array Slot) (hl : lv_has ls 7 [(0, .ref (b 0)), (5, va_rf x5)]) (hO : cO dC dI b k A s.heap σ H locs) (hw : C_X6_elementOrDefault_b75 b k Q x5 σ) : W p l e R s m args below meth c H locs 0 0 (MQ below (va_Qq Q (cAt dC dI A b k) A) args s 0 0 A) (F0 m 75 ls []) := by
  unfold C_X6_elementOrDefault_b75 at hw
  refine lv_aloadO X.1 X.2.1 dX6_elementOrDefault_75 (lv_at hl 1 rfl) ?_
  exact W.aret (v := va_rf x5) X.1 X.2.1 hr (Or.inl ⟨_, rfl⟩) (va_rf_or _) (fun t ht hW => ⟨⟨x5, σ, rfl, hw, cO_end hO hK ht hW⟩, hO.2.2.F ht⟩) hO.2.2.2.2 dX6_elementOrDefault_77 hlk
def C_X6_elementOrDefault_b33 (b : Nat → Nat) (k : Nat → ClassId) (Q : Option Nat → cS → Prop) (x2 : Int32) (x3 : Int32) (y0 : Option Nat) (σ : cS) : Prop :=
 C_X1_named_w b k (fun r40 t40 => (¬ y0 = none → C_X6_elementOrDefault_b75 b k Q y0 t40) ∧ (y0 = none → (r40 = (-1 : Int32) → C_X6_elementOrDefault_b75 b k Q y0 t40) ∧ (¬ r40 = (-1 : Int32) → vp_in r40 16 ∧ ∃ v66 : Option Nat, pR t40.2.2.2.2 (t40.2.2.1 r40.toNatClampNeg) 0 5 v66 ∧ ∃ a70 : Nat, pX t40.2.2.2.2 v66 2 a70 ∧ C_X2_firstNamed_w b k a70 (fun r70 t70 => C_X6_elementOrDefault_b75 b k Q r70 t70) x3 t40))) x2 σ
set_option maxHeartbeats 4000000 in
set_option maxRecDepth 100000 in
theorem cB_X6_elementOrDefault_33 {Q : Option Nat → cS → Prop} (X : CallFix p m c cX6_elementOrDefault 7 s args wsX6_elementOrDefault RX6) (hr : meth.sig.returnType = (some (.object "ClassFileIndex$Value"))) (hlk : meth.locks = false) (hR : 2 ≤ R.frames ∧ 43 ≤ R.locals) (hK : cK dC dI k s) (hA : ∀ q, s.heap.size ≤ q → A q) (x2 : Int32) (x3 : Int32) (y0 : Option Nat) (σ : cS) (H : Heap) (locs : List Loc) (ls : Array Slot) (hl : lv_has ls 7 [(0, .ref (b 0)), (2, .int x2), (3, .int x3)]) (hO : cO dC dI b k A s.heap σ H locs) (hw : C_X6_elementOrDefault_b33 b k Q x2 x3 y0 σ) : W p l e R s m args below meth c H locs 0 0 (MQ below (va_Qq Q (cAt dC dI A b k) A) args s 0 0 A) (F0 m 33 ls [va_rf y0]) := by
  unfold C_X6_elementOrDefault_b33 at hw
  refine lv_astoreO (o := y0) (lv' := [(5, va_rf y0), (0, .ref (b 0)), (2, .int x2), (3, .int x3)]) X.1 X.2.1 dX6_elementOrDefault_33 hl (by decide) rfl (fun ls hl => ?_)
  refine lv_aload_n X.1 X.2.1 dX6_elementOrDefault_35 rfl (lv_at hl 1 rfl) ?_
  refine cf_X6_knownClasses X fX6_X6_knownClasses hK hO dX6_elementOrDefault_36 ?_
  refine lv_iload_n X.1 X.2.1 dX6_elementOrDefault_39 rfl (lv_at hl 2 rfl) ?_
  refine c_calli (rest := []) (As := [.int x2]) X (cC_X1_named l dC dI b k σ H.size x2 _ hw) (cwV 1 X.2.2.2.2 gX6_X1_named rfl rfl rfl hdX1_named ⟨Nat.le_trans (by decide) hR.1, Nat.le_trans (by decide) hR.2⟩) (cRecv_X1 hK hO) hK hA hO rfl hl.1 rfl (Nat.le_of_ble_eq_true rfl) dX6_elementOrDefault_40 (Nat.zero_le _) (Nat.zero_le _) (fun r40 t40 H locs hO hw => ?_)
  refine lv_istore (lv' := [(6, .int r40), (5, va_rf y0), (0, .ref (b 0)), (2, .int x2), (3, .int x3)]) X.1 X.2.1 dX6_elementOrDefault_43 hl (by decide) (by cases y0 <;> rfl) (fun ls hl => ?_)
  refine lv_aloadO X.1 X.2.1 dX6_elementOrDefault_45 (lv_at hl 1 rfl) ?_
  refine lv_ifnonnullO (o := y0) (tgt := 75) X.1 X.2.1 dX6_elementOrDefault_47 rfl (fun hc9 => ?_) (fun hc9 => ?_)
  · have hw := hw.1 hc9
    exact cB_X6_elementOrDefault_75 X hr hlk hR hK hA y0 t40 H locs ls (lv_sub hl [2, 1] rfl) hO hw
  · have hw := hw.2 hc9
    refine lv_iload X.1 X.2.1 dX6_elementOrDefault_50 (lv_at hl 0 rfl) ?_
    refine lv_iconst (v := -1) X.1 X.2.1 dX6_elementOrDefault_52 (by decide) ?_
    refine lv_icmp_eq (tgt := 75) X.1 X.2.1 dX6_elementOrDefault_53 rfl (fun hc9 => ?_) (fun hc9 => ?_)
    · have hw := hw.1 hc9
      exact cB_X6_elementOrDefault_75 X hr hlk hR hK hA y0 t40 H locs ls (lv_sub hl [2, 1] rfl) hO hw
    · have hw := hw.2 hc9
      refine lv_aload_n X.1 X.2.1 dX6_elementOrDefault_56 rfl (lv_at hl 2 rfl) ?_
      refine cf_X6_knownClasses X fX6_X6_knownClasses hK hO dX6_elementOrDefault_57 ?_
      refine cf_X1_files X fX6_X1_files hK hO dX6_elementOrDefault_60 ?_
      refine lv_iload X.1 X.2.1 dX6_elementOrDefault_63 (lv_at hl 0 rfl) ?_
      obtain ⟨g65, hw⟩ := hw
      refine ca_6 X.1 X.2.1 hK hO g65 dX6_elementOrDefault_65 ?_
      obtain ⟨v66, g66, hw⟩ := hw
      refine cg_X0_defaults X fX6_X0_defaults hK hO g66 dX6_elementOrDefault_66 ?_
      refine lv_iload_n X.1 X.2.1 dX6_elementOrDefault_69 rfl (lv_at hl 4 rfl) ?_
      obtain ⟨a70, z70, hw⟩ := hw
      refine c_callqO (rest := []) (As := [.int x3]) X (cC_X2_firstNamed l dC dI b k t40 H.size a70 x3 _ hw) (cwV 1 X.2.2.2.2 gX6_X2_firstNamed rfl rfl rfl hdX2_firstNamed ⟨Nat.le_trans (by decide) hR.1, Nat.le_trans (by decide) hR.2⟩) (cRecvP hK hO z70 rfl) z70.1 hK hA hO rfl hl.1 rfl (Nat.le_of_ble_eq_true rfl) dX6_elementOrDefault_70 (Nat.zero_le _) (Nat.zero_le _) (fun r70 t70 H locs hO hw => ?_)
      refine lv_astoreO (o := r70) (lv' := [(5, va_rf r70), (6, .int r40), (0, .ref (b 0)), (2, .int x2), (3, .int x3)]) X.1 X.2.1 dX6_elementOrDefault_73 hl (by decide) rfl (fun ls hl => ?_)
      exact cB_X6_elementOrDefault_75 X hr hlk hR hK hA r70 t70 H locs ls (lv_sub hl [2, 0] rfl) hO hw
def C_X6_elementOrDefault_b0 (b : Nat → Nat) (k : Nat → ClassId) (Q : Option Nat → cS → Prop) (x1 : Int32) (x2 : Int32) (x3 : Int32) (σ : cS) : Prop :=
 vp_in x1 16 ∧ ∃ a10 : Nat, pX σ.2.2.2.2 (σ.2.2.1 x1.toNatClampNeg) 0 a10 ∧ C_X0_firstAnnotation_w b k a10 (fun r10 t10 => (¬ r10 = none → ∃ v26 : Option Nat, pR t10.2.2.2.2 r10 5 2 v26 ∧ ∃ a30 : Nat, pX t10.2.2.2.2 v26 2 a30 ∧ C_X2_firstNamed_w b k a30 (fun r30 t30 => C_X6_elementOrDefault_b33 b k Q x2 x3 r30 t30) x3 t10) ∧ (r10 = none → C_X6_elementOrDefault_b33 b k Q x2 x3 none t10)) x2 σ
set_option maxHeartbeats 4000000 in
set_option maxRecDepth 100000 in
theorem cB_X6_elementOrDefault_0 {Q : Option Nat → cS → Prop} (X : CallFix p m c cX6_elementOrDefault 7 s args wsX6_elementOrDefault RX6) (hr : meth.sig.returnType = (some (.object "ClassFileIndex$Value"))) (hlk : meth.locks = false) (hR : 2 ≤ R.frames ∧ 43 ≤ R.locals) (hK : cK dC dI k s) (hA : ∀ q, s.heap.size ≤ q → A q) (x1 : Int32) (x2 : Int32) (x3 : Int32) (σ : cS) (H : Heap) (locs : List Loc) (ls : Array Slot) (hl : lv_has ls 7 [(0, .ref (b 0)), (1, .int x1), (2, .int x2), (3, .int x3)]) (hO : cO dC dI b k A s.heap σ H locs) (hw : C_X6_elementOrDefault_b0 b k Q x1 x2 x3 σ) : W p l e R s m args below meth c H locs 0 0 (MQ below (va_Qq Q (cAt dC dI A b k) A) args s 0 0 A) (F0 m 0 ls []) := by
  unfold C_X6_elementOrDefault_b0 at hw
  refine lv_aload_n X.1 X.2.1 dX6_elementOrDefault_0 rfl (lv_at hl 0 rfl) ?_
  refine cf_X6_knownClasses X fX6_X6_knownClasses hK hO dX6_elementOrDefault_1 ?_
  refine cf_X1_files X fX6_X1_files hK hO dX6_elementOrDefault_4 ?_
  refine lv_iload_n X.1 X.2.1 dX6_elementOrDefault_7 rfl (lv_at hl 1 rfl) ?_
  obtain ⟨g8, hw⟩ := hw
  refine ca_6 X.1 X.2.1 hK hO g8 dX6_elementOrDefault_8 ?_
  refine lv_iload_n X.1 X.2.1 dX6_elementOrDefault_9 rfl (lv_at hl 2 rfl) ?_
  obtain ⟨a10, z10, hw⟩ := hw
  refine c_callqO (rest := []) (As := [.int x2]) X (cC_X0_firstAnnotation l dC dI b k σ H.size a10 x2 _ hw) (cwV 1 X.2.2.2.2 gX6_X0_firstAnnotation rfl rfl rfl hdX0_firstAnnotation ⟨Nat.le_trans (by decide) hR.1, Nat.le_trans (by decide) hR.2⟩) (cRecvP hK hO z10 rfl) z10.1 hK hA hO rfl hl.1 rfl (Nat.le_of_ble_eq_true rfl) dX6_elementOrDefault_10 (Nat.zero_le _) (Nat.zero_le _) (fun r10 t10 H locs hO hw => ?_)
  refine lv_astoreO (o := r10) (lv' := [(4, va_rf r10), (0, .ref (b 0)), (1, .int x1), (2, .int x2), (3, .int x3)]) X.1 X.2.1 dX6_elementOrDefault_13 hl (by decide) rfl (fun ls hl => ?_)
  refine lv_aloadO X.1 X.2.1 dX6_elementOrDefault_15 (lv_at hl 0 rfl) ?_
  refine lv_ifnonnullO (o := r10) (tgt := 24) X.1 X.2.1 dX6_elementOrDefault_17 rfl (fun hc9 => ?_) (fun hc9 => ?_)
  · have hw := hw.1 hc9
    refine lv_aloadO X.1 X.2.1 dX6_elementOrDefault_24 (lv_at hl 0 rfl) ?_
    obtain ⟨v26, g26, hw⟩ := hw
    refine cg_X5_parts X fX6_X5_parts hK hO g26 dX6_elementOrDefault_26 ?_
    refine lv_iload_n X.1 X.2.1 dX6_elementOrDefault_29 rfl (lv_at hl 4 rfl) ?_
    obtain ⟨a30, z30, hw⟩ := hw
    refine c_callqO (rest := []) (As := [.int x3]) X (cC_X2_firstNamed l dC dI b k t10 H.size a30 x3 _ hw) (cwV 1 X.2.2.2.2 gX6_X2_firstNamed rfl rfl rfl hdX2_firstNamed ⟨Nat.le_trans (by decide) hR.1, Nat.le_trans (by decide) hR.2⟩) (cRecvP hK hO z30 rfl) z30.1 hK hA hO rfl hl.1 rfl (Nat.le_of_ble_eq_true rfl) dX6_elementOrDefault_30 (Nat.zero_le _) (Nat.zero_le _) (fun r30 t30 H locs hO hw => ?_)
    exact cB_X6_elementOrDefault_33 X hr hlk hR hK hA x2 x3 r30 t30 H locs ls (lv_sub hl [1, 3, 4] rfl) hO hw
  · have hw := hw.2 hc9
    refine lv_null X.1 X.2.1 dX6_elementOrDefault_20 ?_
    refine lv_goto (tgt := 33) X.1 X.2.1 dX6_elementOrDefault_21 rfl ?_
    exact cB_X6_elementOrDefault_33 X hr hlk hR hK hA x2 x3 none t10 H locs ls (lv_sub hl [1, 3, 4] rfl) hO hw
def C_X6_elementOrDefault_w (b : Nat → Nat) (k : Nat → ClassId) (Q : Option Nat → cS → Prop) (x1 : Int32) (x2 : Int32) (x3 : Int32) (σ : cS) : Prop := C_X6_elementOrDefault_b0 b k Q x1 x2 x3 σ
abbrev rmX6_elementOrDefault : Room := { frames := 2, cells := 0, slots := 0, locals := 43 }
set_option maxHeartbeats 4000000 in
set_option maxRecDepth 100000 in
theorem cC_X6_elementOrDefault (l : Launch) (dC : Nat → ClassId) (dI : Nat → Nat → Nat) (b : Nat → Nat) (k : Nat → ClassId) (σ : cS) (sz : Nat) (x1 : Int32) (x2 : Int32) (x3 : Int32) (Q : Option Nat → cS → Prop) (hw : C_X6_elementOrDefault_w b k Q x1 x2 x3 σ) : Met l yX6_elementOrDefault wsX6_elementOrDefault rmX6_elementOrDefault (cPc dC dI b k sz σ [.ref (b 0), .int x1, .int x2, .int x3]) (va_Qq Q (cAt dC dI (va_A (cCells b k σ) sz) b k) (va_A (cCells b k σ) sz)) 0 0 (va_A (cCells b k σ) sz) := by
  refine Met.ofW (cc := cX6_elementOrDefault) (maxL := 7) (ret := (some (.object "ClassFileIndex$Value"))) (by decide) rfl ?_
  intro p e s m args below meth c s₁ B hml hv
  obtain ⟨hargs, hsz, hP, hK, hD0⟩ := hv
  have hts := atoms_spec (ws := wsX6_elementOrDefault) B.pre
  have hown : s.vm.findClass RX6 = some m.cls := findClass_of_methodNamed B.named
  subst hsz
  subst hargs
  have hD := hD0.self (sz := s.heap.size)
  generalize hAe : va_A (cCells b k σ) s.heap.size = A at hD ⊢
  have hA : ∀ q : Nat, s.heap.size ≤ q → A q := fun q h => by rw [← hAe]; exact Or.inr h
  have hl := lv_entry ([.ref (b 0), .int x1, .int x2, .int x3]) (n := 7) (Nat.le_of_ble_eq_true rfl)
  rw [lg_entry_eq]
  generalize (lg_sl ([.ref (b 0), .int x1, .int x2, .int x3]) ++ List.replicate (7 - (lg_sl ([.ref (b 0), .int x1, .int x2, .int x3])).length) Slot.unset).toArray = ls at hl ⊢
  have hl : lv_has ls 7 [(0, .ref (b 0)), (1, .int x1), (2, .int x2), (3, .int x3)] := hl
  unfold C_X6_elementOrDefault_w at hw
  exact cB_X6_elementOrDefault_0 ⟨B.exec, B.bytes, hml, hown, hts⟩ B.returns B.notSynchronized ⟨Nat.le_of_ble_eq_true rfl, Nat.le_of_ble_eq_true rfl⟩ hK hA x1 x2 x3 σ s.heap [] ls (lv_sub hl [0, 1, 2, 3] rfl) ⟨hP, hD, va_S.rf⟩ hw
def C_X6_value_b19 (b : Nat → Nat) (k : Nat → ClassId) (Q : Int64 → cS → Prop) (σ : cS) : Prop :=
 Q (-1 : Int64) σ
set_option maxHeartbeats 4000000 in
set_option maxRecDepth 100000 in
theorem cB_X6_value_19 {Q : Int64 → cS → Prop} (X : CallFix p m c cX6_value 9 s args wsX6_value RX6) (hr : meth.sig.returnType = (some .long)) (hlk : meth.locks = false) (hR : 3 ≤ R.frames ∧ 69 ≤ R.locals) (hK : cK dC dI k s) (hA : ∀ q, s.heap.size ≤ q → A q) (σ : cS) (H : Heap) (locs : List Loc) (ls : Array Slot) (hl : lv_has ls 9 [(0, .ref (b 0))]) (hO : cO dC dI b k A s.heap σ H locs) (hw : C_X6_value_b19 b k Q σ) : W p l e R s m args below meth c H locs 0 0 (MQ below (va_Ql Q (cAt dC dI A b k) A) args s 0 0 A) (F0 m 19 ls []) := by
  unfold C_X6_value_b19 at hw
  refine lv_ldc2 (v := -1) X.1 X.2.1 X.2.2.2.1 (X.2.2.2.2 _ (List.mem_cons_of_mem _ qX6_112)) dX6_value_19 ?_
  exact W.lret (v := (-1 : Int64)) X.1 X.2.1 hr (fun t ht hW => ⟨⟨(-1 : Int64), σ, rfl, hw, cO_end hO hK ht hW⟩, hO.2.2.F ht⟩) hO.2.2.2.2 dX6_value_22 hlk
def C_X6_value_b101 (b : Nat → Nat) (k : Nat → ClassId) (Q : Int64 → cS → Prop) (y0 : Int64) (σ : cS) : Prop :=
 Q y0 σ
set_option maxHeartbeats 4000000 in
set_option maxRecDepth 100000 in
theorem cB_X6_value_101 {Q : Int64 → cS → Prop} (X : CallFix p m c cX6_value 9 s args wsX6_value RX6) (hr : meth.sig.returnType = (some .long)) (hlk : meth.locks = false) (hR : 3 ≤ R.frames ∧ 69 ≤ R.locals) (hK : cK dC dI k s) (hA : ∀ q, s.heap.size ≤ q → A q) (y0 : Int64) (σ : cS) (H : Heap) (locs : List Loc) (ls : Array Slot) (hl : lv_has ls 9 [(0, .ref (b 0))]) (hO : cO dC dI b k A s.heap σ H locs) (hw : C_X6_value_b101 b k Q y0 σ) : W p l e R s m args below meth c H locs 0 0 (MQ below (va_Ql Q (cAt dC dI A b k) A) args s 0 0 A) (F0 m 101 ls [.long y0]) := by
  unfold C_X6_value_b101 at hw
  exact W.lret (v := y0) X.1 X.2.1 hr (fun t ht hW => ⟨⟨y0, σ, rfl, hw, cO_end hO hK ht hW⟩, hO.2.2.F ht⟩) hO.2.2.2.2 dX6_value_101 hlk
def C_X6_value_b85 (b : Nat → Nat) (k : Nat → ClassId) (Q : Int64 → cS → Prop) (x6 : Option Nat) (σ : cS) : Prop :=
 (¬ x6 = none → ∃ a98 : Nat, pX σ.2.2.2.2 x6 5 a98 ∧ C_X5_answer_w b k a98 (fun r98 t98 => C_X6_value_b101 b k Q r98 t98) σ) ∧ (x6 = none → C_X6_value_b101 b k Q (-1 : Int64) σ)
set_option maxHeartbeats 4000000 in
set_option maxRecDepth 100000 in
theorem cB_X6_value_85 {Q : Int64 → cS → Prop} (X : CallFix p m c cX6_value 9 s args wsX6_value RX6) (hr : meth.sig.returnType = (some .long)) (hlk : meth.locks = false) (hR : 3 ≤ R.frames ∧ 69 ≤ R.locals) (hK : cK dC dI k s) (hA : ∀ q, s.heap.size ≤ q → A q) (x6 : Option Nat) (σ : cS) (H : Heap) (locs : List Loc) (ls : Array Slot) (hl : lv_has ls 9 [(0, .ref (b 0)), (6, va_rf x6)]) (hO : cO dC dI b k A s.heap σ H locs) (hw : C_X6_value_b85 b k Q x6 σ) : W p l e R s m args below meth c H locs 0 0 (MQ below (va_Ql Q (cAt dC dI A b k) A) args s 0 0 A) (F0 m 85 ls []) := by
  unfold C_X6_value_b85 at hw
  refine lv_aloadO X.1 X.2.1 dX6_value_85 (lv_at hl 1 rfl) ?_
  refine lv_ifnonnullO (o := x6) (tgt := 96) X.1 X.2.1 dX6_value_87 rfl (fun hc9 => ?_) (fun hc9 => ?_)
  · have hw := hw.1 hc9
    refine lv_aloadO X.1 X.2.1 dX6_value_96 (lv_at hl 1 rfl) ?_
    obtain ⟨a98, z98, hw⟩ := hw
    refine c_calllO (rest := []) (As := []) X (cC_X5_answer l dC dI b k σ H.size a98 _ hw) (cwV 0 X.2.2.2.2 gX6_X5_answer rfl rfl rfl hdX5_answer ⟨Nat.le_trans (by decide) hR.1, Nat.le_trans (by decide) hR.2⟩) (cRecvP hK hO z98 rfl) z98.1 hK hA hO rfl hl.1 rfl (Nat.le_of_ble_eq_true rfl) dX6_value_98 (Nat.zero_le _) (Nat.zero_le _) (fun r98 t98 H locs hO hw => ?_)
    exact cB_X6_value_101 X hr hlk hR hK hA r98 t98 H locs ls (lv_sub hl [0] rfl) hO hw
  · have hw := hw.2 hc9
    refine lv_ldc2 (v := -1) X.1 X.2.1 X.2.2.2.1 (X.2.2.2.2 _ (List.mem_cons_of_mem _ qX6_112)) dX6_value_90 ?_
    refine lv_goto (tgt := 101) X.1 X.2.1 dX6_value_93 rfl ?_
    exact cB_X6_value_101 X hr hlk hR hK hA (-1 : Int64) σ H locs ls (lv_sub hl [0] rfl) hO hw
def C_X6_value_b40_s (b : Nat → Nat) (k : Nat → ClassId) (Q : Int64 → cS → Prop) (K40 : Option Nat → Int32 → Int32 → cS → Prop) (x6 : Option Nat) (x7 : Int32) (x8 : Int32) (σ : cS) : Prop :=
 ((11 : Int32) ≤ x8 → C_X6_value_b85 b k Q x6 σ) ∧ (¬ (11 : Int32) ≤ x8 → (x7 ≤ 0 → C_X6_value_b85 b k Q x6 σ) ∧ (¬ x7 ≤ 0 → (x6 = none → C_X6_value_b85 b k Q x6 σ) ∧ (¬ x6 = none → ∃ v59 : Option Nat, pR σ.2.2.2.2 x6 5 2 v59 ∧ ∃ a67 : Nat, pX σ.2.2.2.2 v59 2 a67 ∧ C_X2_nth_w b k a67 (fun r67 t67 => ∀ v77 : Int32, v77 = (x7 / (8 : Int32)) → ∀ v79 : Int32, v79 = x8 + (1 : Int32) → K40 r67 v77 v79 t67) (x7 - x7 / (8 : Int32) * (8 : Int32)) σ)))
def C_X6_value_b40_f (b : Nat → Nat) (k : Nat → ClassId) (Q : Int64 → cS → Prop) : (Option Nat × Int32 × Int32 × cS → Prop) → Option Nat × Int32 × Int32 × cS → Prop :=
 fun K z => C_X6_value_b40_s b k Q (fun x6 x7 x8 σ => K (x6, x7, x8, σ)) z.1 z.2.1 z.2.2.1 z.2.2.2
def C_X6_value_b40 (b : Nat → Nat) (k : Nat → ClassId) (Q : Int64 → cS → Prop) (x6 : Option Nat) (x7 : Int32) (x8 : Int32) (σ : cS) : Prop := ∃ n, fx (C_X6_value_b40_f b k Q ) n (x6, x7, x8, σ)
set_option maxHeartbeats 4000000 in
set_option maxRecDepth 100000 in
theorem cB_X6_value_40 {Q : Int64 → cS → Prop} (X : CallFix p m c cX6_value 9 s args wsX6_value RX6) (hr : meth.sig.returnType = (some .long)) (hlk : meth.locks = false) (hR : 3 ≤ R.frames ∧ 69 ≤ R.locals) (hK : cK dC dI k s) (hA : ∀ q, s.heap.size ≤ q → A q) : ∀ (n : Nat) (x6 : Option Nat) (x7 : Int32) (x8 : Int32) (σ : cS) (H : Heap) (locs : List Loc) (ls : Array Slot), lv_has ls 9 [(0, .ref (b 0)), (6, va_rf x6), (7, .int x7), (8, .int x8)] → cO dC dI b k A s.heap σ H locs → fx (C_X6_value_b40_f b k Q ) n (x6, x7, x8, σ) → W p l e R s m args below meth c H locs 0 0 (MQ below (va_Ql Q (cAt dC dI A b k) A) args s 0 0 A) (F0 m 40 ls []) := by
  intro n
  induction n with
  | zero => intro x6 x7 x8 σ H locs ls hl hO hw; exact False.elim hw
  | succ n k40 =>
    intro x6 x7 x8 σ H locs ls hl hO hw
    have hw : C_X6_value_b40_s b k Q (fun x6 x7 x8 σ => fx (C_X6_value_b40_f b k Q ) n (x6, x7, x8, σ)) x6 x7 x8 σ := hw
    unfold C_X6_value_b40_s at hw
    refine lv_iload X.1 X.2.1 dX6_value_40 (lv_at hl 3 rfl) ?_
    refine lv_bipush (v := 11) X.1 X.2.1 dX6_value_42 (by decide) ?_
    refine lv_icmp_ge (tgt := 85) X.1 X.2.1 dX6_value_44 rfl (fun hc9 => ?_) (fun hc9 => ?_)
    · have hw := hw.1 hc9
      exact cB_X6_value_85 X hr hlk hR hK hA x6 σ H locs ls (lv_sub hl [0, 1] rfl) hO hw
    · have hw := hw.2 hc9
      refine lv_iload X.1 X.2.1 dX6_value_47 (lv_at hl 2 rfl) ?_
      refine lv_if_le (tgt := 85) X.1 X.2.1 dX6_value_49 rfl (fun hc9 => ?_) (fun hc9 => ?_)
      · have hw := hw.1 hc9
        exact cB_X6_value_85 X hr hlk hR hK hA x6 σ H locs ls (lv_sub hl [0, 1] rfl) hO hw
      · have hw := hw.2 hc9
        refine lv_aloadO X.1 X.2.1 dX6_value_52 (lv_at hl 1 rfl) ?_
        refine lv_ifnullO (o := x6) (tgt := 85) X.1 X.2.1 dX6_value_54 rfl (fun hc9 => ?_) (fun hc9 => ?_)
        · have hw := hw.1 hc9
          exact cB_X6_value_85 X hr hlk hR hK hA x6 σ H locs ls (lv_sub hl [0, 1] rfl) hO hw
        · have hw := hw.2 hc9
          refine lv_aloadO X.1 X.2.1 dX6_value_57 (lv_at hl 1 rfl) ?_
          obtain ⟨v59, g59, hw⟩ := hw
          refine cg_X5_parts X fX6_X5_parts hK hO g59 dX6_value_59 ?_
          refine lv_iload X.1 X.2.1 dX6_value_62 (lv_at hl 2 rfl) ?_
          refine lv_bipush (v := 8) X.1 X.2.1 dX6_value_64 (by decide) ?_
          refine lv_irem X.1 X.2.1 dX6_value_66 (by decide) ?_
          obtain ⟨a67, z67, hw⟩ := hw
          refine c_callqO (rest := []) (As := [.int (x7 - x7 / (8 : Int32) * (8 : Int32))]) X (cC_X2_nth l dC dI b k σ H.size a67 (x7 - x7 / (8 : Int32) * (8 : Int32)) _ hw) (cwV 1 X.2.2.2.2 gX6_X2_nth rfl rfl rfl hdX2_nth ⟨Nat.le_trans (by decide) hR.1, Nat.le_trans (by decide) hR.2⟩) (cRecvP hK hO z67 rfl) z67.1 hK hA hO rfl hl.1 rfl (Nat.le_of_ble_eq_true rfl) dX6_value_67 (Nat.zero_le _) (Nat.zero_le _) (fun r67 t67 H locs hO hw => ?_)
          refine lv_astoreO (o := r67) (lv' := [(6, va_rf r67), (0, .ref (b 0)), (7, .int x7), (8, .int x8)]) X.1 X.2.1 dX6_value_70 hl (by decide) rfl (fun ls hl => ?_)
          refine lv_iload X.1 X.2.1 dX6_value_72 (lv_at hl 2 rfl) ?_
          refine lv_bipush (v := 8) X.1 X.2.1 dX6_value_74 (by decide) ?_
          refine lv_idiv X.1 X.2.1 dX6_value_76 (by decide) ?_
          refine lv_topi (fun v77 e77 => ?_)
          have hw := hw v77 e77
          refine lv_istore (lv' := [(7, .int v77), (6, va_rf r67), (0, .ref (b 0)), (8, .int x8)]) X.1 X.2.1 dX6_value_77 hl (by decide) (by cases r67 <;> rfl) (fun ls hl => ?_)
          obtain ⟨v79, e79⟩ : ∃ z, z = x8 + (1 : Int32) := ⟨_, rfl⟩
          have hw := hw v79 e79
          refine lv_iinc (lv' := [(8, .int v79), (7, .int v77), (6, va_rf r67), (0, .ref (b 0))]) (k := 3) (v := v79) X.1 X.2.1 dX6_value_79 hl rfl (by rw [e79]; rfl) (by decide) rfl (fun ls hl => ?_)
          refine lv_goto (tgt := 40) X.1 X.2.1 dX6_value_82 rfl ?_
          exact k40 r67 v77 v79 t67 H locs ls (lv_sub hl [3, 2, 1, 0] rfl) hO hw
def C_X6_value_b0 (b : Nat → Nat) (k : Nat → ClassId) (Q : Int64 → cS → Prop) (x1 : Int32) (x2 : Int32) (x3 : Int32) (x4 : Int32) (σ : cS) : Prop :=
 C_X6_holder_w b k (fun r3 t3 => (r3 = (-1 : Int32) → C_X6_value_b19 b k Q t3) ∧ (¬ r3 = (-1 : Int32) → (0 ≤ x4 → C_X6_elementOrDefault_w b k (fun r28 t28 => C_X6_value_b40 b k Q r28 x4 (0 : Int32) t28) r3 x2 x3 t3) ∧ (¬ 0 ≤ x4 → C_X6_value_b19 b k Q t3))) x1 x2 σ
set_option maxHeartbeats 4000000 in
set_option maxRecDepth 100000 in
theorem cB_X6_value_0 {Q : Int64 → cS → Prop} (X : CallFix p m c cX6_value 9 s args wsX6_value RX6) (hr : meth.sig.returnType = (some .long)) (hlk : meth.locks = false) (hR : 3 ≤ R.frames ∧ 69 ≤ R.locals) (hK : cK dC dI k s) (hA : ∀ q, s.heap.size ≤ q → A q) (x1 : Int32) (x2 : Int32) (x3 : Int32) (x4 : Int32) (σ : cS) (H : Heap) (locs : List Loc) (ls : Array Slot) (hl : lv_has ls 9 [(0, .ref (b 0)), (1, .int x1), (2, .int x2), (3, .int x3), (4, .int x4)]) (hO : cO dC dI b k A s.heap σ H locs) (hw : C_X6_value_b0 b k Q x1 x2 x3 x4 σ) : W p l e R s m args below meth c H locs 0 0 (MQ below (va_Ql Q (cAt dC dI A b k) A) args s 0 0 A) (F0 m 0 ls []) := by
  unfold C_X6_value_b0 at hw
  refine lv_aload_n X.1 X.2.1 dX6_value_0 rfl (lv_at hl 0 rfl) ?_
  refine lv_iload_n X.1 X.2.1 dX6_value_1 rfl (lv_at hl 1 rfl) ?_
  refine lv_iload_n X.1 X.2.1 dX6_value_2 rfl (lv_at hl 2 rfl) ?_
  refine c_calli (rest := []) (As := [.int x1, .int x2]) X (cC_X6_holder l dC dI b k σ H.size x1 x2 _ hw) (cwV 2 X.2.2.2.2 gX6_X6_holder rfl rfl rfl hdX6_holder ⟨Nat.le_trans (by decide) hR.1, Nat.le_trans (by decide) hR.2⟩) (cRecv_X6 hK hO) hK hA hO rfl hl.1 rfl (Nat.le_of_ble_eq_true rfl) dX6_value_3 (Nat.zero_le _) (Nat.zero_le _) (fun r3 t3 H locs hO hw => ?_)
  refine lv_istore (lv' := [(5, .int r3), (0, .ref (b 0)), (1, .int x1), (2, .int x2), (3, .int x3), (4, .int x4)]) X.1 X.2.1 dX6_value_6 hl (by decide) rfl (fun ls hl => ?_)
  refine lv_iload X.1 X.2.1 dX6_value_8 (lv_at hl 0 rfl) ?_
  refine lv_iconst (v := -1) X.1 X.2.1 dX6_value_10 (by decide) ?_
  refine lv_icmp_eq (tgt := 19) X.1 X.2.1 dX6_value_11 rfl (fun hc9 => ?_) (fun hc9 => ?_)
  · have hw := hw.1 hc9
    exact cB_X6_value_19 X hr hlk hR hK hA t3 H locs ls (lv_sub hl [1] rfl) hO hw
  · have hw := hw.2 hc9
    refine lv_iload X.1 X.2.1 dX6_value_14 (lv_at hl 5 rfl) ?_
    refine lv_if_ge (tgt := 23) X.1 X.2.1 dX6_value_16 rfl (fun hc9 => ?_) (fun hc9 => ?_)
    · have hw := hw.1 hc9
      refine lv_aload_n X.1 X.2.1 dX6_value_23 rfl (lv_at hl 1 rfl) ?_
      refine lv_iload X.1 X.2.1 dX6_value_24 (lv_at hl 0 rfl) ?_
      refine lv_iload_n X.1 X.2.1 dX6_value_26 rfl (lv_at hl 3 rfl) ?_
      refine lv_iload_n X.1 X.2.1 dX6_value_27 rfl (lv_at hl 4 rfl) ?_
      refine c_callq (rest := []) (As := [.int r3, .int x2, .int x3]) X (cC_X6_elementOrDefault l dC dI b k t3 H.size r3 x2 x3 _ hw) (cwV 3 X.2.2.2.2 gX6_X6_elementOrDefault rfl rfl rfl hdX6_elementOrDefault ⟨Nat.le_trans (by decide) hR.1, Nat.le_trans (by decide) hR.2⟩) (cRecv_X6 hK hO) hK hA hO rfl hl.1 rfl (Nat.le_of_ble_eq_true rfl) dX6_value_28 (Nat.zero_le _) (Nat.zero_le _) (fun r28 t28 H locs hO hw => ?_)
      refine lv_astoreO (o := r28) (lv' := [(6, va_rf r28), (5, .int r3), (0, .ref (b 0)), (1, .int x1), (2, .int x2), (3, .int x3), (4, .int x4)]) X.1 X.2.1 dX6_value_31 hl (by decide) rfl (fun ls hl => ?_)
      refine lv_iload X.1 X.2.1 dX6_value_33 (lv_at hl 6 rfl) ?_
      refine lv_istore (lv' := [(7, .int x4), (6, va_rf r28), (5, .int r3), (0, .ref (b 0)), (1, .int x1), (2, .int x2), (3, .int x3), (4, .int x4)]) X.1 X.2.1 dX6_value_35 hl (by decide) (by cases r28 <;> rfl) (fun ls hl => ?_)
      refine lv_iconst (v := 0) X.1 X.2.1 dX6_value_37 (by decide) ?_
      refine lv_istore (lv' := [(8, .int (0 : Int32)), (7, .int x4), (6, va_rf r28), (5, .int r3), (0, .ref (b 0)), (1, .int x1), (2, .int x2), (3, .int x3), (4, .int x4)]) X.1 X.2.1 dX6_value_38 hl (by decide) rfl (fun ls hl => ?_)
      obtain ⟨n, hw⟩ := hw
      exact cB_X6_value_40 X hr hlk hR hK hA n r28 x4 (0 : Int32) t28 H locs ls (lv_sub hl [4, 2, 1, 0] rfl) hO hw
    · have hw := hw.2 hc9
      exact cB_X6_value_19 X hr hlk hR hK hA t3 H locs ls (lv_sub hl [1] rfl) hO hw
def C_X6_value_w (b : Nat → Nat) (k : Nat → ClassId) (Q : Int64 → cS → Prop) (x1 : Int32) (x2 : Int32) (x3 : Int32) (x4 : Int32) (σ : cS) : Prop := C_X6_value_b0 b k Q x1 x2 x3 x4 σ
abbrev rmX6_value : Room := { frames := 3, cells := 0, slots := 0, locals := 69 }
set_option maxHeartbeats 4000000 in
set_option maxRecDepth 100000 in
theorem cC_X6_value (l : Launch) (dC : Nat → ClassId) (dI : Nat → Nat → Nat) (b : Nat → Nat) (k : Nat → ClassId) (σ : cS) (sz : Nat) (x1 : Int32) (x2 : Int32) (x3 : Int32) (x4 : Int32) (Q : Int64 → cS → Prop) (hw : C_X6_value_w b k Q x1 x2 x3 x4 σ) : Met l yX6_value wsX6_value rmX6_value (cPc dC dI b k sz σ [.ref (b 0), .int x1, .int x2, .int x3, .int x4]) (va_Ql Q (cAt dC dI (va_A (cCells b k σ) sz) b k) (va_A (cCells b k σ) sz)) 0 0 (va_A (cCells b k σ) sz) := by
  refine Met.ofW (cc := cX6_value) (maxL := 9) (ret := (some .long)) (by decide) rfl ?_
  intro p e s m args below meth c s₁ B hml hv
  obtain ⟨hargs, hsz, hP, hK, hD0⟩ := hv
  have hts := atoms_spec (ws := wsX6_value) B.pre
  have hown : s.vm.findClass RX6 = some m.cls := findClass_of_methodNamed B.named
  subst hsz
  subst hargs
  have hD := hD0.self (sz := s.heap.size)
  generalize hAe : va_A (cCells b k σ) s.heap.size = A at hD ⊢
  have hA : ∀ q : Nat, s.heap.size ≤ q → A q := fun q h => by rw [← hAe]; exact Or.inr h
  have hl := lv_entry ([.ref (b 0), .int x1, .int x2, .int x3, .int x4]) (n := 9) (Nat.le_of_ble_eq_true rfl)
  rw [lg_entry_eq]
  generalize (lg_sl ([.ref (b 0), .int x1, .int x2, .int x3, .int x4]) ++ List.replicate (9 - (lg_sl ([.ref (b 0), .int x1, .int x2, .int x3, .int x4])).length) Slot.unset).toArray = ls at hl ⊢
  have hl : lv_has ls 9 [(0, .ref (b 0)), (1, .int x1), (2, .int x2), (3, .int x3), (4, .int x4)] := hl
  unfold C_X6_value_w at hw
  exact cB_X6_value_0 ⟨B.exec, B.bytes, hml, hown, hts⟩ B.returns B.notSynchronized ⟨Nat.le_of_ble_eq_true rfl, Nat.le_of_ble_eq_true rfl⟩ hK hA x1 x2 x3 x4 σ s.heap [] ls (lv_sub hl [0, 1, 2, 3, 4] rfl) ⟨hP, hD, va_S.rf⟩ hw
end
