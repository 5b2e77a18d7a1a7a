section
variable {p : Program} {l : Launch} {e : Env} {R : Room} {s : State} {m : MethodId} {args : Array Value} {below : List Frame} {meth : Method} {c : Code}
variable {dC : Nat → ClassId} {dI : Nat → Nat → Nat} {b : Nat → Nat} {k : Nat → ClassId} {A : Nat → Prop}
def C_X6_elementOrDefault_b75 (b : Nat → Nat) (k : Nat → ClassId) (Q : Option Nat → cS → Prop) (x5 : Option Nat) (σ : cS) : Prop :=
 Q x5 σ
set_option maxHeartbeats 4000000 in
set_option maxRecDepth 100000 in
theorem cB_X6_elementOrDefault_75 {Q : Option Nat → cS → Prop} (X : CallFix p m c cX6_elementOrDefault 7 s args wsX6_elementOrDefault RX6) (hr : meth.sig.returnType = (some (.object "ClassFileIndex$Value"))) (hlk : meth.locks = false) (hR : 2 ≤ R.frames ∧ 43 ≤ R.locals) (hK : cK dC dI k s) (hA : ∀ q, s.heap.size ≤ q → A q) (x5 : Option Nat) (σ : cS) (H : Heap) (locs : List Loc) (ls : Array Slot) (hl : lv_has ls 7 [(0, .ref (b 0)), (5, va_rf x5)]) (hO : cO dC dI b k A s.heap σ H locs) (hw : C_X6_elementOrDefault_b75 b k Q x5 σ) : W p l e R s m args below meth c H locs 0 0 (MQ below (va_Qq Q (cAt dC dI A b k) A) args s 0 0 A) (F0 m 75 ls []) := by
  unfold C_X6_elementOrDefault_b75 at hw
  refine lv_aloadO X.1 X.2.1 dX6_elementOrDefault_75 (lv_at hl 1 rfl) ?_
  exact W.aret (v := va_rf x5) X.1 X.2.1 hr (Or.inl ⟨_, rfl⟩) (va_rf_or _) (fun t ht hW => ⟨⟨x5, σ, rfl, hw, cO_end hO hK ht hW⟩, hO.2.2.F ht⟩) hO.2.2.2.2 dX6_elementOrDefault_77 hlk
def C_X6_elementOrDefault_b33 (b : Nat → Nat) (k : Nat → ClassId) (Q : Option Nat → cS → Prop) (x2 : Int32) (x3 : Int32) (y0 : Option Nat) (σ : cS) : Prop :=
 C_X1_named_w b k (fun r40 t40 => (¬ y0 = none → C_X6_elementOrDefault_b75 b k Q y0 t40) ∧ (y0 = none → (r40 = (-1 : Int32) → C_X6_elementOrDefault_b75 b k Q y0 t40) ∧ (¬ r40 = (-1 : Int32) → vp_in r40 16 ∧ ∃ v66 : Option Nat, pR t40.2.2.2.2 (t40.2.2.1 r40.toNatClampNeg) 0 5 v66 ∧ ∃ a70 : Nat, pX t40.2.2.2.2 v66 2 a70 ∧ C_X2_firstNamed_w b k a70 (fun r70 t70 => C_X6_elementOrDefault_b75 b k Q r70 t70) x3 t40))) x2 σ
set_option maxHeartbeats 4000000 in
set_option maxRecDepth 100000 in
theorem cB_X6_elementOrDefault_33 {Q : Option Nat → cS → Prop} (X : CallFix p m c cX6_elementOrDefault 7 s args wsX6_elementOrDefault RX6) (hr : meth.sig.returnType = (some (.object "ClassFileIndex$Value"))) (hlk : meth.locks = false) (hR : 2 ≤ R.frames ∧ 43 ≤ R.locals) (hK : cK dC dI k s) (hA : ∀ q, s.heap.size ≤ q → A q) (x2 : Int32) (x3 : Int32) (y0 : Option Nat) (σ : cS) (H : Heap) (locs : List Loc) (ls : Array Slot) (hl : lv_has ls 7 [(0, .ref (b 0)), (2, .int x2), (3, .int x3)]) (hO : cO dC dI b k A s.heap σ H locs) (hw : C_X6_elementOrDefault_b33 b k Q x2 x3 y0 σ) : W p l e R s m args below meth c H locs 0 0 (MQ below (va_Qq Q (cAt dC dI A b k) A) args s 0 0 A) (F0 m 33 ls [va_rf y0]) := by
  unfold C_X6_elementOrDefault_b33 at hw
  refine lv_astoreO (o := y0) (lv' := [(5, va_rf y0), (0, .ref (b 0)), (2, .int x2), (3, .int x3)]) X.1 X.2.1 dX6_elementOrDefault_33 hl (by decide) rfl (fun ls hl => ?_)
  refine lv_aload_n X.1 X.2.1 dX6_elementOrDefault_35 rfl (lv_at hl 1 rfl) ?_
  refine cf_X6_knownClasses X fX6_X6_knownClasses hK hO dX6_elementOrDefault_36 ?_
  refine lv_iload_n X.1 X.2.1 dX6_elementOrDefault_39 rfl (lv_at hl 2 rfl) ?_
  refine c_calli (rest := []) (As := [.int x2]) X (cC_X1_named l dC dI b k σ H.size x2 _ hw) (cwV 1 X.2.2.2.2 gX6_X1_named rfl rfl rfl hdX1_named ⟨Nat.le_trans (show 0 + 1 ≤ 2 by decide) hR.1, Nat.le_trans (show 8 + (2 + 11) + 0 ≤ 43 by decide) hR.2⟩) (cRecv_X1 hK hO) hK hA hO rfl hl.1 rfl (Nat.le_of_ble_eq_true rfl) dX6_elementOrDefault_40 (Nat.zero_le _) (Nat.zero_le _) (fun r40 t40 H locs hO hw => ?_)
  refine lv_istore (lv' := [(6, .int r40), (5, va_rf y0), (0, .ref (b 0)), (2, .int x2), (3, .int x3)]) X.1 X.2.1 dX6_elementOrDefault_43 hl (by decide) (by cases y0 <;> rfl) (fun ls hl => ?_)
  refine lv_aloadO X.1 X.2.1 dX6_elementOrDefault_45 (lv_at hl 1 rfl) ?_
  refine lv_ifnonnullO (o := y0) (tgt := 75) X.1 X.2.1 dX6_elementOrDefault_47 rfl (fun hc9 => ?_) (fun hc9 => ?_)
  · have hw := hw.1 hc9
    exact cB_X6_elementOrDefault_75 X hr hlk hR hK hA y0 t40 H locs ls (lv_sub hl [2, 1] rfl) hO hw
  · have hw := hw.2 hc9
    refine lv_iload X.1 X.2.1 dX6_elementOrDefault_50 (lv_at hl 0 rfl) ?_
    refine lv_iconst (v := -1) X.1 X.2.1 dX6_elementOrDefault_52 (by decide) ?_
    refine lv_icmp_eq (tgt := 75) X.1 X.2.1 dX6_elementOrDefault_53 rfl (fun hc9 => ?_) (fun hc9 => ?_)
    · have hw := hw.1 hc9
      exact cB_X6_elementOrDefault_75 X hr hlk hR hK hA y0 t40 H locs ls (lv_sub hl [2, 1] rfl) hO hw
    · have hw := hw.2 hc9
      refine lv_aload_n X.1 X.2.1 dX6_elementOrDefault_56 rfl (lv_at hl 2 rfl) ?_
      refine cf_X6_knownClasses X fX6_X6_knownClasses hK hO dX6_elementOrDefault_57 ?_
      refine cf_X1_files X fX6_X1_files hK hO dX6_elementOrDefault_60 ?_
      refine lv_iload X.1 X.2.1 dX6_elementOrDefault_63 (lv_at hl 0 rfl) ?_
      obtain ⟨g65, hw⟩ := hw
      refine ca_6 X.1 X.2.1 hK hO g65 dX6_elementOrDefault_65 ?_
      obtain ⟨v66, g66, hw⟩ := hw
      refine cg_X0_defaults X fX6_X0_defaults hK hO g66 dX6_elementOrDefault_66 ?_
      refine lv_iload_n X.1 X.2.1 dX6_elementOrDefault_69 rfl (lv_at hl 4 rfl) ?_
      obtain ⟨a70, z70, hw⟩ := hw
      refine c_callqO (rest := []) (As := [.int x3]) X (cC_X2_firstNamed l dC dI b k t40 H.size a70 x3 _ hw) (cwV 1 X.2.2.2.2 gX6_X2_firstNamed rfl rfl rfl hdX2_firstNamed ⟨Nat.le_trans (show 0 + 1 ≤ 2 by decide) hR.1, Nat.le_trans (show 8 + (3 + 11) + 0 ≤ 43 by decide) hR.2⟩) (cRecvP hK hO z70 rfl) z70.1 hK hA hO rfl hl.1 rfl (Nat.le_of_ble_eq_true rfl) dX6_elementOrDefault_70 (Nat.zero_le _) (Nat.zero_le _) (fun r70 t70 H locs hO hw => ?_)
      refine lv_astoreO (o := r70) (lv' := [(5, va_rf r70), (6, .int r40), (0, .ref (b 0)), (2, .int x2), (3, .int x3)]) X.1 X.2.1 dX6_elementOrDefault_73 hl (by decide) rfl (fun ls hl => ?_)
      exact cB_X6_elementOrDefault_75 X hr hlk hR hK hA r70 t70 H locs ls (lv_sub hl [2, 0] rfl) hO hw
def C_X6_elementOrDefault_b0 (b : Nat → Nat) (k : Nat → ClassId) (Q : Option Nat → cS → Prop) (x1 : Int32) (x2 : Int32) (x3 : Int32) (σ : cS) : Prop :=
 vp_in x1 16 ∧ ∃ a10 : Nat, pX σ.2.2.2.2 (σ.2.2.1 x1.toNatClampNeg) 0 a10 ∧ C_X0_firstAnnotation_w b k a10 (fun r10 t10 => (¬ r10 = none → ∃ v26 : Option Nat, pR t10.2.2.2.2 r10 5 2 v26 ∧ ∃ a30 : Nat, pX t10.2.2.2.2 v26 2 a30 ∧ C_X2_firstNamed_w b k a30 (fun r30 t30 => C_X6_elementOrDefault_b33 b k Q x2 x3 r30 t30) x3 t10) ∧ (r10 = none → C_X6_elementOrDefault_b33 b k Q x2 x3 none t10)) x2 σ
set_option maxHeartbeats 4000000 in
set_option maxRecDepth 100000 in
theorem cB_X6_elementOrDefault_0 {Q : Option Nat → cS → Prop} (X : CallFix p m c cX6_elementOrDefault 7 s args wsX6_elementOrDefault RX6) (hr : meth.sig.returnType = (some (.object "ClassFileIndex$Value"))) (hlk : meth.locks = false) (hR : 2 ≤ R.frames ∧ 43 ≤ R.locals) (hK : cK dC dI k s) (hA : ∀ q, s.heap.size ≤ q → A q) (x1 : Int32) (x2 : Int32) (x3 : Int32) (σ : cS) (H : Heap) (locs : List Loc) (ls : Array Slot) (hl : lv_has ls 7 [(0, .ref (b 0)), (1, .int x1), (2, .int x2), (3, .int x3)]) (hO : cO dC dI b k A s.heap σ H locs) (hw : C_X6_elementOrDefault_b0 b k Q x1 x2 x3 σ) : W p l e R s m args below meth c H locs 0 0 (MQ below (va_Qq Q (cAt dC dI A b k) A) args s 0 0 A) (F0 m 0 ls []) := by
  unfold C_X6_elementOrDefault_b0 at hw
  refine lv_aload_n X.1 X.2.1 dX6_elementOrDefault_0 rfl (lv_at hl 0 rfl) ?_
  refine cf_X6_knownClasses X fX6_X6_knownClasses hK hO dX6_elementOrDefault_1 ?_
  refine cf_X1_files X fX6_X1_files hK hO dX6_elementOrDefault_4 ?_
  refine lv_iload_n X.1 X.2.1 dX6_elementOrDefault_7 rfl (lv_at hl 1 rfl) ?_
  obtain ⟨g8, hw⟩ := hw
  refine ca_6 X.1 X.2.1 hK hO g8 dX6_elementOrDefault_8 ?_
  refine lv_iload_n X.1 X.2.1 dX6_elementOrDefault_9 rfl (lv_at hl 2 rfl) ?_
  obtain ⟨a10, z10, hw⟩ := hw
  refine c_callqO (rest := []) (As := [.int x2]) X (cC_X0_firstAnnotation l dC dI b k σ H.size a10 x2 _ hw) (cwV 1 X.2.2.2.2 gX6_X0_firstAnnotation rfl rfl rfl hdX0_firstAnnotation ⟨Nat.le_trans (show 1 + 1 ≤ 2 by decide) hR.1, Nat.le_trans (show 8 + (3 + 11) + 21 ≤ 43 by decide) hR.2⟩) (cRecvP hK hO z10 rfl) z10.1 hK hA hO rfl hl.1 rfl (Nat.le_of_ble_eq_true rfl) dX6_elementOrDefault_10 (Nat.zero_le _) (Nat.zero_le _) (fun r10 t10 H locs hO hw => ?_)
  refine lv_astoreO (o := r10) (lv' := [(4, va_rf r10), (0, .ref (b 0)), (1, .int x1), (2, .int x2), (3, .int x3)]) X.1 X.2.1 dX6_elementOrDefault_13 hl (by decide) rfl (fun ls hl => ?_)
  refine lv_aloadO X.1 X.2.1 dX6_elementOrDefault_15 (lv_at hl 0 rfl) ?_
  refine lv_ifnonnullO (o := r10) (tgt := 24) X.1 X.2.1 dX6_elementOrDefault_17 rfl (fun hc9 => ?_) (fun hc9 => ?_)
  · have hw := hw.1 hc9
    refine lv_aloadO X.1 X.2.1 dX6_elementOrDefault_24 (lv_at hl 0 rfl) ?_
    obtain ⟨v26, g26, hw⟩ := hw
    refine cg_X5_parts X fX6_X5_parts hK hO g26 dX6_elementOrDefault_26 ?_
    refine lv_iload_n X.1 X.2.1 dX6_elementOrDefault_29 rfl (lv_at hl 4 rfl) ?_
    obtain ⟨a30, z30, hw⟩ := hw
    refine c_callqO (rest := []) (As := [.int x3]) X (cC_X2_firstNamed l dC dI b k t10 H.size a30 x3 _ hw) (cwV 1 X.2.2.2.2 gX6_X2_firstNamed rfl rfl rfl hdX2_firstNamed ⟨Nat.le_trans (show 0 + 1 ≤ 2 by decide) hR.1, Nat.le_trans (show 8 + (3 + 11) + 0 ≤ 43 by decide) hR.2⟩) (cRecvP hK hO z30 rfl) z30.1 hK hA hO rfl hl.1 rfl (Nat.le_of_ble_eq_true rfl) dX6_elementOrDefault_30 (Nat.zero_le _) (Nat.zero_le _) (fun r30 t30 H locs hO hw => ?_)
    exact cB_X6_elementOrDefault_33 X hr hlk hR hK hA x2 x3 r30 t30 H locs ls (lv_sub hl [1, 3, 4] rfl) hO hw
  · have hw := hw.2 hc9
    refine lv_null X.1 X.2.1 dX6_elementOrDefault_20 ?_
    refine lv_goto (tgt := 33) X.1 X.2.1 dX6_elementOrDefault_21 rfl ?_
    exact cB_X6_elementOrDefault_33 X hr hlk hR hK hA x2 x3 none t10 H locs ls (lv_sub hl [1, 3, 4] rfl) hO hw
def C_X6_elementOrDefault_w (b : Nat → Nat) (k : Nat → ClassId) (Q : Option Nat → cS → Prop) (x1 : Int32) (x2 : Int32) (x3 : Int32) (σ : cS) : Prop := C_X6_elementOrDefault_b0 b k Q x1 x2 x3 σ
abbrev rmX6_elementOrDefault : Room := { frames := 2, cells := 0, slots := 0, locals := 43 }
set_option maxHeartbeats 4000000 in
set_option maxRecDepth 100000 in
theorem cC_X6_elementOrDefault (l : Launch) (dC : Nat → ClassId) (dI : Nat → Nat → Nat) (b : Nat → Nat) (k : Nat → ClassId) (σ : cS) (sz : Nat) (x1 : Int32) (x2 : Int32) (x3 : Int32) (Q : Option Nat → cS → Prop) (hw : C_X6_elementOrDefault_w b k Q x1 x2 x3 σ) : Met l yX6_elementOrDefault wsX6_elementOrDefault rmX6_elementOrDefault (cPc dC dI b k sz σ [.ref (b 0), .int x1, .int x2, .int x3]) (va_Qq Q (cAt dC dI (va_A (cCells b k σ) sz) b k) (va_A (cCells b k σ) sz)) 0 0 (va_A (cCells b k σ) sz) := by
  refine Met.ofW (cc := cX6_elementOrDefault) (maxL := 7) (ret := (some (.object "ClassFileIndex$Value"))) (by decide) rfl ?_
  intro p e s m args below meth c s₁ B hml hv
  obtain ⟨hargs, hsz, hP, hK, hD0⟩ := hv
  have hts := atoms_spec (ws := wsX6_elementOrDefault) B.pre
  have hown : s.vm.findClass RX6 = some m.cls := findClass_of_methodNamed B.named
  subst hsz
  subst hargs
  have hD := hD0.self (sz := s.heap.size)
  generalize hAe : va_A (cCells b k σ) s.heap.size = A at hD ⊢
  have hA : ∀ q : Nat, s.heap.size ≤ q → A q := fun q h => by rw [← hAe]; exact Or.inr h
  have hl := lv_entry ([.ref (b 0), .int x1, .int x2, .int x3]) (n := 7) (Nat.le_of_ble_eq_true rfl)
  rw [lg_entry_eq]
  generalize (lg_sl ([.ref (b 0), .int x1, .int x2, .int x3]) ++ List.replicate (7 - (lg_sl ([.ref (b 0), .int x1, .int x2, .int x3])).length) Slot.unset).toArray = ls at hl ⊢
  have hl : lv_has ls 7 [(0, .ref (b 0)), (1, .int x1), (2, .int x2), (3, .int x3)] := hl
  unfold C_X6_elementOrDefault_w at hw
  exact cB_X6_elementOrDefault_0 ⟨B.exec, B.bytes, hml, hown, hts⟩ B.returns B.notSynchronized ⟨Nat.le_of_ble_eq_true rfl, Nat.le_of_ble_eq_true rfl⟩ hK hA x1 x2 x3 σ s.heap [] ls (lv_sub hl [0, 1, 2, 3] rfl) ⟨hP, hD, va_S.rf⟩ hw
def C_X6_value_b19 (b : Nat → Nat) (k : Nat → ClassId) (Q : Int64 → cS → Prop) (σ : cS) : Prop :=
 Q (-1 : Int64) σ
set_option maxHeartbeats 4000000 in
set_option maxRecDepth 100000 in
theorem cB_X6_value_19 {Q : Int64 → cS → Prop} (X : CallFix p m c cX6_value 9 s args wsX6_value RX6) (hr : meth.sig.returnType = (some .long)) (hlk : meth.locks = false) (hR : 3 ≤ R.frames ∧ 69 ≤ R.locals) (hK : cK dC dI k s) (hA : ∀ q, s.heap.size ≤ q → A q) (σ : cS) (H : Heap) (locs : List Loc) (ls : Array Slot) (hl : lv_has ls 9 [(0, .ref (b 0))]) (hO : cO dC dI b k A s.heap σ H locs) (hw : C_X6_value_b19 b k Q σ) : W p l e R s m args below meth c H locs 0 0 (MQ below (va_Ql Q (cAt dC dI A b k) A) args s 0 0 A) (F0 m 19 ls []) := by
  unfold C_X6_value_b19 at hw
  refine lv_ldc2 (v := -1) X.1 X.2.1 X.2.2.2.1 (X.2.2.2.2 _ (List.mem_cons_of_mem _ qX6_112)) dX6_value_19 ?_
  exact W.lret (v := (-1 : Int64)) X.1 X.2.1 hr (fun t ht hW => ⟨⟨(-1 : Int64), σ, rfl, hw, cO_end hO hK ht hW⟩, hO.2.2.F ht⟩) hO.2.2.2.2 dX6_value_22 hlk
def C_X6_value_b101 (b : Nat → Nat) (k : Nat → ClassId) (Q : Int64 → cS → Prop) (y0 : Int64) (σ : cS) : Prop :=
 Q y0 σ
set_option maxHeartbeats 4000000 in
set_option maxRecDepth 100000 in
theorem cB_X6_value_101 {Q : Int64 → cS → Prop} (X : CallFix p m c cX6_value 9 s args wsX6_value RX6) (hr : meth.sig.returnType = (some .long)) (hlk : meth.locks = false) (hR : 3 ≤ R.frames ∧ 69 ≤ R.locals) (hK : cK dC dI k s) (hA : ∀ q, s.heap.size ≤ q → A q) (y0 : Int64) (σ : cS) (H : Heap) (locs : List Loc) (ls : Array Slot) (hl : lv_has ls 9 [(0, .ref (b 0))]) (hO : cO dC dI b k A s.heap σ H locs) (hw : C_X6_value_b101 b k Q y0 σ) : W p l e R s m args below meth c H locs 0 0 (MQ below (va_Ql Q (cAt dC dI A b k) A) args s 0 0 A) (F0 m 101 ls [.long y0]) := by
  unfold C_X6_value_b101 at hw
  exact W.lret (v := y0) X.1 X.2.1 hr (fun t ht hW => ⟨⟨y0, σ, rfl, hw, cO_end hO hK ht hW⟩, hO.2.2.F ht⟩) hO.2.2.2.2 dX6_value_101 hlk
def C_X6_value_b85 (b : Nat → Nat) (k : Nat → ClassId) (Q : Int64 → cS → Prop) (x6 : Option Nat) (σ : cS) : Prop :=
 (¬ x6 = none → ∃ a98 : Nat, pX σ.2.2.2.2 x6 5 a98 ∧ C_X5_answer_w b k a98 (fun r98 t98 => C_X6_value_b101 b k Q r98 t98) σ) ∧ (x6 = none → C_X6_value_b101 b k Q (-1 : Int64) σ)
set_option maxHeartbeats 4000000 in
set_option maxRecDepth 100000 in
theorem cB_X6_value_85 {Q : Int64 → cS → Prop} (X : CallFix p m c cX6_value 9 s args wsX6_value RX6) (hr : meth.sig.returnType = (some .long)) (hlk : meth.locks = false) (hR : 3 ≤ R.frames ∧ 69 ≤ R.locals) (hK : cK dC dI k s) (hA : ∀ q, s.heap.size ≤ q → A q) (x6 : Option Nat) (σ : cS) (H : Heap) (locs : List Loc) (ls : Array Slot) (hl : lv_has ls 9 [(0, .ref (b 0)), (6, va_rf x6)]) (hO : cO dC dI b k A s.heap σ H locs) (hw : C_X6_value_b85 b k Q x6 σ) : W p l e R s m args below meth c H locs 0 0 (MQ below (va_Ql Q (cAt dC dI A b k) A) args s 0 0 A) (F0 m 85 ls []) := by
  unfold C_X6_value_b85 at hw
  refine lv_aloadO X.1 X.2.1 dX6_value_85 (lv_at hl 1 rfl) ?_
  refine lv_ifnonnullO (o := x6) (tgt := 96) X.1 X.2.1 dX6_value_87 rfl (fun hc9 => ?_) (fun hc9 => ?_)
  · have hw := hw.1 hc9
    refine lv_aloadO X.1 X.2.1 dX6_value_96 (lv_at hl 1 rfl) ?_
    obtain ⟨a98, z98, hw⟩ := hw
    refine c_calllO (rest := []) (As := []) X (cC_X5_answer l dC dI b k σ H.size a98 _ hw) (cwV 0 X.2.2.2.2 gX6_X5_answer rfl rfl rfl hdX5_answer ⟨Nat.le_trans (show 0 + 1 ≤ 3 by decide) hR.1, Nat.le_trans (show 8 + (1 + 11) + 0 ≤ 69 by decide) hR.2⟩) (cRecvP hK hO z98 rfl) z98.1 hK hA hO rfl hl.1 rfl (Nat.le_of_ble_eq_true rfl) dX6_value_98 (Nat.zero_le _) (Nat.zero_le _) (fun r98 t98 H locs hO hw => ?_)
    exact cB_X6_value_101 X hr hlk hR hK hA r98 t98 H locs ls (lv_sub hl [0] rfl) hO hw
  · have hw := hw.2 hc9
    refine lv_ldc2 (v := -1) X.1 X.2.1 X.2.2.2.1 (X.2.2.2.2 _ (List.mem_cons_of_mem _ qX6_112)) dX6_value_90 ?_
    refine lv_goto (tgt := 101) X.1 X.2.1 dX6_value_93 rfl ?_
    exact cB_X6_value_101 X hr hlk hR hK hA (-1 : Int64) σ H locs ls (lv_sub hl [0] rfl) hO hw
def C_X6_value_b40_s (b : Nat → Nat) (k : Nat → ClassId) (Q : Int64 → cS → Prop) (K40 : Option Nat → Int32 → Int32 → cS → Prop) (x6 : Option Nat) (x7 : Int32) (x8 : Int32) (σ : cS) : Prop :=
 ((11 : Int32) ≤ x8 → C_X6_value_b85 b k Q x6 σ) ∧ (¬ (11 : Int32) ≤ x8 → (x7 ≤ 0 → C_X6_value_b85 b k Q x6 σ) ∧ (¬ x7 ≤ 0 → (x6 = none → C_X6_value_b85 b k Q x6 σ) ∧ (¬ x6 = none → ∃ v59 : Option Nat, pR σ.2.2.2.2 x6 5 2 v59 ∧ ∃ a67 : Nat, pX σ.2.2.2.2 v59 2 a67 ∧ C_X2_nth_w b k a67 (fun r67 t67 => ∀ v77 : Int32, v77 = (x7 / (8 : Int32)) → ∀ v79 : Int32, v79 = x8 + (1 : Int32) → K40 r67 v77 v79 t67) (x7 - x7 / (8 : Int32) * (8 : Int32)) σ)))
def C_X6_value_b40_f (b : Nat → Nat) (k : Nat → ClassId) (Q : Int64 → cS → Prop) : (Option Nat × Int32 × Int32 × cS → Prop) → Option Nat × Int32 × Int32 × cS → Prop :=
 fun K z => C_X6_value_b40_s b k Q (fun x6 x7 x8 σ => K (x6, x7, x8, σ)) z.1 z.2.1 z.2.2.1 z.2.2.2
def C_X6_value_b40 (b : Nat → Nat) (k : Nat → ClassId) (Q : Int64 → cS → Prop) (x6 : Option Nat) (x7 : Int32) (x8 : Int32) (σ : cS) : Prop := ∃ n, fx (C_X6_value_b40_f b k Q ) n (x6, x7, x8, σ)
set_option maxHeartbeats 4000000 in
set_option maxRecDepth 100000 in
theorem cB_X6_value_40 {Q : Int64 → cS → Prop} (X : CallFix p m c cX6_value 9 s args wsX6_value RX6) (hr : meth.sig.returnType = (some .long)) (hlk : meth.locks = false) (hR : 3 ≤ R.frames ∧ 69 ≤ R.locals) (hK : cK dC dI k s) (hA : ∀ q, s.heap.size ≤ q → A q) : ∀ (n : Nat) (x6 : Option Nat) (x7 : Int32) (x8 : Int32) (σ : cS) (H : Heap) (locs : List Loc) (ls : Array Slot), lv_has ls 9 [(0, .ref (b 0)), (6, va_rf x6), (7, .int x7), (8, .int x8)] → cO dC dI b k A s.heap σ H locs → fx (C_X6_value_b40_f b k Q ) n (x6, x7, x8, σ) → W p l e R s m args below meth c H locs 0 0 (MQ below (va_Ql Q (cAt dC dI A b k) A) args s 0 0 A) (F0 m 40 ls []) := by
  intro n
  induction n with
  | zero => intro x6 x7 x8 σ H locs ls hl hO hw; exact False.elim hw
  | succ n k40 =>
    intro x6 x7 x8 σ H locs ls hl hO hw
    have hw : C_X6_value_b40_s b k Q (fun x6 x7 x8 σ => fx (C_X6_value_b40_f b k Q ) n (x6, x7, x8, σ)) x6 x7 x8 σ := hw
    unfold C_X6_value_b40_s at hw
    refine lv_iload X.1 X.2.1 dX6_value_40 (lv_at hl 3 rfl) ?_
    refine lv_bipush (v := 11) X.1 X.2.1 dX6_value_42 (by decide) ?_
    refine lv_icmp_ge (tgt := 85) X.1 X.2.1 dX6_value_44 rfl (fun hc9 => ?_) (fun hc9 => ?_)
    · have hw := hw.1 hc9
      exact cB_X6_value_85 X hr hlk hR hK hA x6 σ H locs ls (lv_sub hl [0, 1] rfl) hO hw
    · have hw := hw.2 hc9
      refine lv_iload X.1 X.2.1 dX6_value_47 (lv_at hl 2 rfl) ?_
      refine lv_if_le (tgt := 85) X.1 X.2.1 dX6_value_49 rfl (fun hc9 => ?_) (fun hc9 => ?_)
      · have hw := hw.1 hc9
        exact cB_X6_value_85 X hr hlk hR hK hA x6 σ H locs ls (lv_sub hl [0, 1] rfl) hO hw
      · have hw := hw.2 hc9
        refine lv_aloadO X.1 X.2.1 dX6_value_52 (lv_at hl 1 rfl) ?_
        refine lv_ifnullO (o := x6) (tgt := 85) X.1 X.2.1 dX6_value_54 rfl (fun hc9 => ?_) (fun hc9 => ?_)
        · have hw := hw.1 hc9
          exact cB_X6_value_85 X hr hlk hR hK hA x6 σ H locs ls (lv_sub hl [0, 1] rfl) hO hw
        · have hw := hw.2 hc9
          refine lv_aloadO X.1 X.2.1 dX6_value_57 (lv_at hl 1 rfl) ?_
          obtain ⟨v59, g59, hw⟩ := hw
          refine cg_X5_parts X fX6_X5_parts hK hO g59 dX6_value_59 ?_
          refine lv_iload X.1 X.2.1 dX6_value_62 (lv_at hl 2 rfl) ?_
          refine lv_bipush (v := 8) X.1 X.2.1 dX6_value_64 (by decide) ?_
          refine lv_irem X.1 X.2.1 dX6_value_66 (by decide) ?_
          obtain ⟨a67, z67, hw⟩ := hw
          refine c_callqO (rest := []) (As := [.int (x7 - x7 / (8 : Int32) * (8 : Int32))]) X (cC_X2_nth l dC dI b k σ H.size a67 (x7 - x7 / (8 : Int32) * (8 : Int32)) _ hw) (cwV 1 X.2.2.2.2 gX6_X2_nth rfl rfl rfl hdX2_nth ⟨Nat.le_trans (show 0 + 1 ≤ 3 by decide) hR.1, Nat.le_trans (show 8 + (2 + 11) + 0 ≤ 69 by decide) hR.2⟩) (cRecvP hK hO z67 rfl) z67.1 hK hA hO rfl hl.1 rfl (Nat.le_of_ble_eq_true rfl) dX6_value_67 (Nat.zero_le _) (Nat.zero_le _) (fun r67 t67 H locs hO hw => ?_)
          refine lv_astoreO (o := r67) (lv' := [(6, va_rf r67), (0, .ref (b 0)), (7, .int x7), (8, .int x8)]) X.1 X.2.1 dX6_value_70 hl (by decide) rfl (fun ls hl => ?_)
          refine lv_iload X.1 X.2.1 dX6_value_72 (lv_at hl 2 rfl) ?_
          refine lv_bipush (v := 8) X.1 X.2.1 dX6_value_74 (by decide) ?_
          refine lv_idiv X.1 X.2.1 dX6_value_76 (by decide) ?_
          refine lv_topi (fun v77 e77 => ?_)
          have hw := hw v77 e77
          refine lv_istore (lv' := [(7, .int v77), (6, va_rf r67), (0, .ref (b 0)), (8, .int x8)]) X.1 X.2.1 dX6_value_77 hl (by decide) (by cases r67 <;> rfl) (fun ls hl => ?_)
          obtain ⟨v79, e79⟩ : ∃ z, z = x8 + (1 : Int32) := ⟨_, rfl⟩
          have hw := hw v79 e79
          refine lv_iinc (lv' := [(8, .int v79), (7, .int v77), (6, va_rf r67), (0, .ref (b 0))]) (k := 3) (v := v79) X.1 X.2.1 dX6_value_79 hl rfl (by rw [e79]; rfl) (by decide) rfl (fun ls hl => ?_)
          refine lv_goto (tgt := 40) X.1 X.2.1 dX6_value_82 rfl ?_
          exact k40 r67 v77 v79 t67 H locs ls (lv_sub hl [3, 2, 1, 0] rfl) hO hw
def C_X6_value_b0 (b : Nat → Nat) (k : Nat → ClassId) (Q : Int64 → cS → Prop) (x1 : Int32) (x2 : Int32) (x3 : Int32) (x4 : Int32) (σ : cS) : Prop :=
 C_X6_holder_w b k (fun r3 t3 => (r3 = (-1 : Int32) → C_X6_value_b19 b k Q t3) ∧ (¬ r3 = (-1 : Int32) → (0 ≤ x4 → C_X6_elementOrDefault_w b k (fun r28 t28 => C_X6_value_b40 b k Q r28 x4 (0 : Int32) t28) r3 x2 x3 t3) ∧ (¬ 0 ≤ x4 → C_X6_value_b19 b k Q t3))) x1 x2 σ
set_option maxHeartbeats 4000000 in
set_option maxRecDepth 100000 in
theorem cB_X6_value_0 {Q : Int64 → cS → Prop} (X : CallFix p m c cX6_value 9 s args wsX6_value RX6) (hr : meth.sig.returnType = (some .long)) (hlk : meth.locks = false) (hR : 3 ≤ R.frames ∧ 69 ≤ R.locals) (hK : cK dC dI k s) (hA : ∀ q, s.heap.size ≤ q → A q) (x1 : Int32) (x2 : Int32) (x3 : Int32) (x4 : Int32) (σ : cS) (H : Heap) (locs : List Loc) (ls : Array Slot) (hl : lv_has ls 9 [(0, .ref (b 0)), (1, .int x1), (2, .int x2), (3, .int x3), (4, .int x4)]) (hO : cO dC dI b k A s.heap σ H locs) (hw : C_X6_value_b0 b k Q x1 x2 x3 x4 σ) : W p l e R s m args below meth c H locs 0 0 (MQ below (va_Ql Q (cAt dC dI A b k) A) args s 0 0 A) (F0 m 0 ls []) := by
  unfold C_X6_value_b0 at hw
  refine lv_aload_n X.1 X.2.1 dX6_value_0 rfl (lv_at hl 0 rfl) ?_
  refine lv_iload_n X.1 X.2.1 dX6_value_1 rfl (lv_at hl 1 rfl) ?_
  refine lv_iload_n X.1 X.2.1 dX6_value_2 rfl (lv_at hl 2 rfl) ?_
  refine c_calli (rest := []) (As := [.int x1, .int x2]) X (cC_X6_holder l dC dI b k σ H.size x1 x2 _ hw) (cwV 2 X.2.2.2.2 gX6_X6_holder rfl rfl rfl hdX6_holder ⟨Nat.le_trans (show 2 + 1 ≤ 3 by decide) hR.1, Nat.le_trans (show 8 + (6 + 11) + 44 ≤ 69 by decide) hR.2⟩) (cRecv_X6 hK hO) hK hA hO rfl hl.1 rfl (Nat.le_of_ble_eq_true rfl) dX6_value_3 (Nat.zero_le _) (Nat.zero_le _) (fun r3 t3 H locs hO hw => ?_)
  refine lv_istore (lv' := [(5, .int r3), (0, .ref (b 0)), (1, .int x1), (2, .int x2), (3, .int x3), (4, .int x4)]) X.1 X.2.1 dX6_value_6 hl (by decide) rfl (fun ls hl => ?_)
  refine lv_iload X.1 X.2.1 dX6_value_8 (lv_at hl 0 rfl) ?_
  refine lv_iconst (v := -1) X.1 X.2.1 dX6_value_10 (by decide) ?_
  refine lv_icmp_eq (tgt := 19) X.1 X.2.1 dX6_value_11 rfl (fun hc9 => ?_) (fun hc9 => ?_)
  · have hw := hw.1 hc9
    exact cB_X6_value_19 X hr hlk hR hK hA t3 H locs ls (lv_sub hl [1] rfl) hO hw
  · have hw := hw.2 hc9
    refine lv_iload X.1 X.2.1 dX6_value_14 (lv_at hl 5 rfl) ?_
    refine lv_if_ge (tgt := 23) X.1 X.2.1 dX6_value_16 rfl (fun hc9 => ?_) (fun hc9 => ?_)
    · have hw := hw.1 hc9
      refine lv_aload_n X.1 X.2.1 dX6_value_23 rfl (lv_at hl 1 rfl) ?_
      refine lv_iload X.1 X.2.1 dX6_value_24 (lv_at hl 0 rfl) ?_
      refine lv_iload_n X.1 X.2.1 dX6_value_26 rfl (lv_at hl 3 rfl) ?_
      refine lv_iload_n X.1 X.2.1 dX6_value_27 rfl (lv_at hl 4 rfl) ?_
      refine c_callq (rest := []) (As := [.int r3, .int x2, .int x3]) X (cC_X6_elementOrDefault l dC dI b k t3 H.size r3 x2 x3 _ hw) (cwV 3 X.2.2.2.2 gX6_X6_elementOrDefault rfl rfl rfl hdX6_elementOrDefault ⟨Nat.le_trans (show 2 + 1 ≤ 3 by decide) hR.1, Nat.le_trans (show 8 + (7 + 11) + 43 ≤ 69 by decide) hR.2⟩) (cRecv_X6 hK hO) hK hA hO rfl hl.1 rfl (Nat.le_of_ble_eq_true rfl) dX6_value_28 (Nat.zero_le _) (Nat.zero_le _) (fun r28 t28 H locs hO hw => ?_)
      refine lv_astoreO (o := r28) (lv' := [(6, va_rf r28), (5, .int r3), (0, .ref (b 0)), (1, .int x1), (2, .int x2), (3, .int x3), (4, .int x4)]) X.1 X.2.1 dX6_value_31 hl (by decide) rfl (fun ls hl => ?_)
      refine lv_iload X.1 X.2.1 dX6_value_33 (lv_at hl 6 rfl) ?_
      refine lv_istore (lv' := [(7, .int x4), (6, va_rf r28), (5, .int r3), (0, .ref (b 0)), (1, .int x1), (2, .int x2), (3, .int x3), (4, .int x4)]) X.1 X.2.1 dX6_value_35 hl (by decide) (by cases r28 <;> rfl) (fun ls hl => ?_)
      refine lv_iconst (v := 0) X.1 X.2.1 dX6_value_37 (by decide) ?_
      refine lv_istore (lv' := [(8, .int (0 : Int32)), (7, .int x4), (6, va_rf r28), (5, .int r3), (0, .ref (b 0)), (1, .int x1), (2, .int x2), (3, .int x3), (4, .int x4)]) X.1 X.2.1 dX6_value_38 hl (by decide) rfl (fun ls hl => ?_)
      obtain ⟨n, hw⟩ := hw
      exact cB_X6_value_40 X hr hlk hR hK hA n r28 x4 (0 : Int32) t28 H locs ls (lv_sub hl [4, 2, 1, 0] rfl) hO hw
    · have hw := hw.2 hc9
      exact cB_X6_value_19 X hr hlk hR hK hA t3 H locs ls (lv_sub hl [1] rfl) hO hw
def C_X6_value_w (b : Nat → Nat) (k : Nat → ClassId) (Q : Int64 → cS → Prop) (x1 : Int32) (x2 : Int32) (x3 : Int32) (x4 : Int32) (σ : cS) : Prop := C_X6_value_b0 b k Q x1 x2 x3 x4 σ
abbrev rmX6_value : Room := { frames := 3, cells := 0, slots := 0, locals := 69 }
set_option maxHeartbeats 4000000 in
set_option maxRecDepth 100000 in
theorem cC_X6_value (l : Launch) (dC : Nat → ClassId) (dI : Nat → Nat → Nat) (b : Nat → Nat) (k : Nat → ClassId) (σ : cS) (sz : Nat) (x1 : Int32) (x2 : Int32) (x3 : Int32) (x4 : Int32) (Q : Int64 → cS → Prop) (hw : C_X6_value_w b k Q x1 x2 x3 x4 σ) : Met l yX6_value wsX6_value rmX6_value (cPc dC dI b k sz σ [.ref (b 0), .int x1, .int x2, .int x3, .int x4]) (va_Ql Q (cAt dC dI (va_A (cCells b k σ) sz) b k) (va_A (cCells b k σ) sz)) 0 0 (va_A (cCells b k σ) sz) := by
  refine Met.ofW (cc := cX6_value) (maxL := 9) (ret := (some .long)) (by decide) rfl ?_
  intro p e s m args below meth c s₁ B hml hv
  obtain ⟨hargs, hsz, hP, hK, hD0⟩ := hv
  have hts := atoms_spec (ws := wsX6_value) B.pre
  have hown : s.vm.findClass RX6 = some m.cls := findClass_of_methodNamed B.named
  subst hsz
  subst hargs
  have hD := hD0.self (sz := s.heap.size)
  generalize hAe : va_A (cCells b k σ) s.heap.size = A at hD ⊢
  have hA : ∀ q : Nat, s.heap.size ≤ q → A q := fun q h => by rw [← hAe]; exact Or.inr h
  have hl := lv_entry ([.ref (b 0), .int x1, .int x2, .int x3, .int x4]) (n := 9) (Nat.le_of_ble_eq_true rfl)
  rw [lg_entry_eq]
  generalize (lg_sl ([.ref (b 0), .int x1, .int x2, .int x3, .int x4]) ++ List.replicate (9 - (lg_sl ([.ref (b 0), .int x1, .int x2, .int x3, .int x4])).length) Slot.unset).toArray = ls at hl ⊢
  have hl : lv_has ls 9 [(0, .ref (b 0)), (1, .int x1), (2, .int x2), (3, .int x3), (4, .int x4)] := hl
  unfold C_X6_value_w at hw
  exact cB_X6_value_0 ⟨B.exec, B.bytes, hml, hown, hts⟩ B.returns B.notSynchronized ⟨Nat.le_of_ble_eq_true rfl, Nat.le_of_ble_eq_true rfl⟩ hK hA x1 x2 x3 x4 σ s.heap [] ls (lv_sub hl [0, 1, 2, 3, 4] rfl) ⟨hP, hD, va_S.rf⟩ hw
def C_X3_readParts_b45 (b : Nat → Nat) (k : Nat → ClassId) (RV : Nat → Nat → (Option Nat → cS → Prop) → Int32 → cS → Prop) (MC MS : Nat) (Q : Option Nat → cS → Prop) (K16 : Int32 → Int32 → Option Nat → Int32 → Nat → Nat → cS → Prop) (x1 : Int32) (x2 : Int32) (x3 : Option Nat) (x4 : Int32) (y0 : Int32) (y1 : Int32) (y2 : Option Nat) (nc : Nat) (ns : Nat) (σ : cS) : Prop :=
 ∃ (a45 j45 n45 : Nat) (f45 : Nat → Int32), y2 = some a45 ∧ σ.2.2.2.2[j45]? = some (a45, .inl (k 0, n45, .inl f45)) ∧ vp_in y1 n45 ∧ ∀ t45 : cS, t45 = sP σ j45 (a45, .inl (k 0, n45, .inl (upd f45 y1.toNatClampNeg y0))) → ∃ v47 : Option Nat, pR t45.2.2.2.2 x3 2 1 v47 ∧ ∃ mc54 ms54 : Nat, nc + mc54 ≤ MC ∧ ns + ms54 ≤ MS ∧ RV mc54 ms54 (fun r54 t54 => ∃ (a57 j57 n57 : Nat) (f57 : Nat → Option Nat), v47 = some a57 ∧ t54.2.2.2.2[j57]? = some (a57, .inl (k 3, n57, .inr (.inr (.inr (.inr f57))))) ∧ vp_in x4 n57 ∧ pO t54.2.2.2.2 r54 5 ∧ ∀ t57 : cS, t57 = sP t54 j57 (a57, .inl (k 3, n57, .inr (.inr (.inr (.inr (va_up f57 x4.toNatClampNeg r54)))))) → ∀ v58 : Int32, v58 = x4 + (1 : Int32) → K16 x1 x2 x3 v58 (nc + mc54) (ns + ms54) t57) x2 t45
set_option maxHeartbeats 4000000 in
set_option maxRecDepth 100000 in
theorem cB_X3_readParts_45 {RV : Nat → Nat → (Option Nat → cS → Prop) → Int32 → cS → Prop} {fr lo : Nat} {MC MS : Nat} {Q : Option Nat → cS → Prop} {K16 : Int32 → Int32 → Option Nat → Int32 → Nat → Nat → cS → Prop} (X : CallFix p m c cX3_readParts 5 s args wsX3_readParts RX3) (hr : meth.sig.returnType = (some (.object "ClassFileIndex$Parts"))) (hlk : meth.locks = false) (hR : fr + 2 ≤ R.frames ∧ lo + 45 ≤ R.locals) (hK : cK dC dI k s) (hA : ∀ q, s.heap.size ≤ q → A q) (hRc : R.cells = MC ∧ R.slots = MS) (hRV : ∀ (σ : cS) (sz mc ms : Nat) (x1 : Int32) (Q : Option Nat → cS → Prop), RV mc ms Q x1 σ → Met l yX3_readValue wsX3_readValue { frames := fr, cells := mc, slots := ms, locals := lo } (cPc dC dI b k sz σ [.ref (b 10), .int x1]) (va_Qq Q (cAt dC dI (va_A (cCells b k σ) sz) b k) (va_A (cCells b k σ) sz)) mc ms (va_A (cCells b k σ) sz)) (k16 : ∀ (x1 : Int32) (x2 : Int32) (x3 : Option Nat) (x4 : Int32) (nc : Nat) (ns : Nat) (σ : cS) (H : Heap) (locs : List Loc) (ls : Array Slot), lv_has ls 5 [(0, .ref (b 10)), (1, .int x1), (2, .int x2), (3, va_rf x3), (4, .int x4)] → cO dC dI b k A s.heap σ H locs → (nc ≤ MC ∧ ns ≤ MS) → K16 x1 x2 x3 x4 nc ns σ → W p l e R s m args below meth c H locs nc ns (MQ below (va_Qq Q (cAt dC dI A b k) A) args s MC MS A) (F0 m 16 ls [])) (x1 : Int32) (x2 : Int32) (x3 : Option Nat) (x4 : Int32) (y0 : Int32) (y1 : Int32) (y2 : Option Nat) (nc : Nat) (ns : Nat) (σ : cS) (H : Heap) (locs : List Loc) (ls : Array Slot) (hl : lv_has ls 5 [(0, .ref (b 10)), (1, .int x1), (2, .int x2), (3, va_rf x3), (4, .int x4)]) (hO : cO dC dI b k A s.heap σ H locs) (hc : (nc ≤ MC ∧ ns ≤ MS)) (hw : C_X3_readParts_b45 b k RV MC MS Q K16 x1 x2 x3 x4 y0 y1 y2 nc ns σ) : W p l e R s m args below meth c H locs nc ns (MQ below (va_Qq Q (cAt dC dI A b k) A) args s MC MS A) (F0 m 45 ls [.int y0, .int y1, va_rf y2]) := by
  unfold C_X3_readParts_b45 at hw
  obtain ⟨a45, j45, n45, f45, g45, q45, k45, hw⟩ := hw
  refine ciastore X.1 X.2.1 hK hO g45 q45 k45 dX3_readParts_45 (fun H locs hO => ?_)
  obtain ⟨t45, e45⟩ : ∃ z, z = sP σ j45 (a45, .inl (k 0, n45, .inl (upd f45 y1.toNatClampNeg y0))) := ⟨_, rfl⟩
  have hw := hw t45 e45
  rw [← e45] at hO
  refine lv_aload_nO X.1 X.2.1 dX3_readParts_46 rfl (lv_at hl 3 rfl) ?_
  obtain ⟨v47, g47, hw⟩ := hw
  refine cg_X2_values X fX3_X2_values hK hO g47 dX3_readParts_47 ?_
  refine lv_iload X.1 X.2.1 dX3_readParts_50 (lv_at hl 4 rfl) ?_
  refine lv_aload_n X.1 X.2.1 dX3_readParts_52 rfl (lv_at hl 0 rfl) ?_
  refine lv_iload_n X.1 X.2.1 dX3_readParts_53 rfl (lv_at hl 2 rfl) ?_
  obtain ⟨mc54, ms54, hc1, hc2, hw⟩ := hw
  have hc : nc + mc54 ≤ MC ∧ ns + ms54 ≤ MS := ⟨hc1, hc2⟩
  refine c_callq (rest := [.int x4, va_rf v47]) (As := [.int x2]) X (hRV t45 H.size mc54 ms54 x2 _ hw) (cwV 1 X.2.2.2.2 gX3_X3_readValue rfl rfl rfl hdX3_readValue ⟨Nat.le_trans (show fr + 0 + 1 ≤ fr + 2 by omega) hR.1, Nat.le_trans (show 8 + (4 + 11) + (lo + 0) ≤ lo + 45 by omega) hR.2⟩) (cRecv_X3 hK hO) hK hA hO rfl hl.1 rfl (by cases v47 <;> exact Nat.le_of_ble_eq_true rfl) dX3_readParts_54 (by rw [hRc.1]; exact hc.1) (by rw [hRc.2]; exact hc.2) (fun r54 t54 H locs hO hw => ?_)
  obtain ⟨a57, j57, n57, f57, g57, q57, k57, z57, hw⟩ := hw
  refine caastore X.1 X.2.1 hK hO g57 q57 k57 z57 dX3_readParts_57 (fun H locs hO => ?_)
  obtain ⟨t57, e57⟩ : ∃ z, z = sP t54 j57 (a57, .inl (k 3, n57, .inr (.inr (.inr (.inr (va_up f57 x4.toNatClampNeg r54)))))) := ⟨_, rfl⟩
  have hw := hw t57 e57
  rw [← e57] at hO
  obtain ⟨v58, e58⟩ : ∃ z, z = x4 + (1 : Int32) := ⟨_, rfl⟩
  have hw := hw v58 e58
  refine lv_iinc (lv' := [(4, .int v58), (0, .ref (b 10)), (1, .int x1), (2, .int x2), (3, va_rf x3)]) (k := 4) (v := v58) X.1 X.2.1 dX3_readParts_58 hl rfl (by rw [e58]; rfl) (by decide) (by cases x3 <;> rfl) (fun ls hl => ?_)
  refine lv_goto (tgt := 16) X.1 X.2.1 dX3_readParts_61 rfl ?_
  exact k16 x1 x2 x3 v58 (nc + mc54) (ns + ms54) t57 H locs ls (lv_sub hl [1, 2, 3, 4, 0] rfl) hO hc hw
def C_X3_readParts_b16_s (b : Nat → Nat) (k : Nat → ClassId) (RV : Nat → Nat → (Option Nat → cS → Prop) → Int32 → cS → Prop) (MC MS : Nat) (Q : Option Nat → cS → Prop) (K16 : Int32 → Int32 → Option Nat → Int32 → Nat → Nat → cS → Prop) (x1 : Int32) (x2 : Int32) (x3 : Option Nat) (x4 : Int32) (nc : Nat) (ns : Nat) (σ : cS) : Prop :=
 ∃ v19 : Option Nat, pR σ.2.2.2.2 x3 2 1 v19 ∧ ∃ (n22 : Nat) (f22 : Nat → Option Nat), pQ σ.2.2.2.2 v19 (k 3) n22 f22 ∧ ((Int32.ofNat n22) ≤ x4 → Q x3 σ) ∧ (¬ (Int32.ofNat n22) ≤ x4 → ∃ v27 : Option Nat, pR σ.2.2.2.2 x3 2 0 v27 ∧ (x1 = 0 → C_X3_readParts_b45 b k RV MC MS Q K16 x1 x2 x3 x4 (-1 : Int32) x4 v27 nc ns σ) ∧ (¬ x1 = 0 → C_X3_readConstant_w b k (fun r38 t38 => C_X3_readParts_b45 b k RV MC MS Q K16 x1 x2 x3 x4 r38 x4 v27 nc ns t38) (2 : Int32) σ))
def C_X3_readParts_b16_f (b : Nat → Nat) (k : Nat → ClassId) (RV : Nat → Nat → (Option Nat → cS → Prop) → Int32 → cS → Prop) (MC MS : Nat) (Q : Option Nat → cS → Prop) : (Int32 × Int32 × Option Nat × Int32 × Nat × Nat × cS → Prop) → Int32 × Int32 × Option Nat × Int32 × Nat × Nat × cS → Prop :=
 fun K z => C_X3_readParts_b16_s b k RV MC MS Q (fun x1 x2 x3 x4 nc ns σ => K (x1, x2, x3, x4, nc, ns, σ)) z.1 z.2.1 z.2.2.1 z.2.2.2.1 z.2.2.2.2.1 z.2.2.2.2.2.1 z.2.2.2.2.2.2
def C_X3_readParts_b16 (b : Nat → Nat) (k : Nat → ClassId) (RV : Nat → Nat → (Option Nat → cS → Prop) → Int32 → cS → Prop) (MC MS : Nat) (Q : Option Nat → cS → Prop) (x1 : Int32) (x2 : Int32) (x3 : Option Nat) (x4 : Int32) (nc : Nat) (ns : Nat) (σ : cS) : Prop := ∃ n, fx (C_X3_readParts_b16_f b k RV MC MS Q ) n (x1, x2, x3, x4, nc, ns, σ)
set_option maxHeartbeats 4000000 in
set_option maxRecDepth 100000 in
theorem cB_X3_readParts_16 {RV : Nat → Nat → (Option Nat → cS → Prop) → Int32 → cS → Prop} {fr lo : Nat} {MC MS : Nat} {Q : Option Nat → cS → Prop} (X : CallFix p m c cX3_readParts 5 s args wsX3_readParts RX3) (hr : meth.sig.returnType = (some (.object "ClassFileIndex$Parts"))) (hlk : meth.locks = false) (hR : fr + 2 ≤ R.frames ∧ lo + 45 ≤ R.locals) (hK : cK dC dI k s) (hA : ∀ q, s.heap.size ≤ q → A q) (hRc : R.cells = MC ∧ R.slots = MS) (hRV : ∀ (σ : cS) (sz mc ms : Nat) (x1 : Int32) (Q : Option Nat → cS → Prop), RV mc ms Q x1 σ → Met l yX3_readValue wsX3_readValue { frames := fr, cells := mc, slots := ms, locals := lo } (cPc dC dI b k sz σ [.ref (b 10), .int x1]) (va_Qq Q (cAt dC dI (va_A (cCells b k σ) sz) b k) (va_A (cCells b k σ) sz)) mc ms (va_A (cCells b k σ) sz)) : ∀ (n : Nat) (x1 : Int32) (x2 : Int32) (x3 : Option Nat) (x4 : Int32) (nc : Nat) (ns : Nat) (σ : cS) (H : Heap) (locs : List Loc) (ls : Array Slot), lv_has ls 5 [(0, .ref (b 10)), (1, .int x1), (2, .int x2), (3, va_rf x3), (4, .int x4)] → cO dC dI b k A s.heap σ H locs → (nc ≤ MC ∧ ns ≤ MS) → fx (C_X3_readParts_b16_f b k RV MC MS Q ) n (x1, x2, x3, x4, nc, ns, σ) → W p l e R s m args below meth c H locs nc ns (MQ below (va_Qq Q (cAt dC dI A b k) A) args s MC MS A) (F0 m 16 ls []) := by
  intro n
  induction n with
  | zero => intro x1 x2 x3 x4 nc ns σ H locs ls hl hO hc hw; exact False.elim hw
  | succ n k16 =>
    intro x1 x2 x3 x4 nc ns σ H locs ls hl hO hc hw
    have hw : C_X3_readParts_b16_s b k RV MC MS Q (fun x1 x2 x3 x4 nc ns σ => fx (C_X3_readParts_b16_f b k RV MC MS Q ) n (x1, x2, x3, x4, nc, ns, σ)) x1 x2 x3 x4 nc ns σ := hw
    unfold C_X3_readParts_b16_s at hw
    refine lv_iload X.1 X.2.1 dX3_readParts_16 (lv_at hl 4 rfl) ?_
    refine lv_aload_nO X.1 X.2.1 dX3_readParts_18 rfl (lv_at hl 3 rfl) ?_
    obtain ⟨v19, g19, hw⟩ := hw
    refine cg_X2_values X fX3_X2_values hK hO g19 dX3_readParts_19 ?_
    obtain ⟨n22, f22, g22, hw⟩ := hw
    refine clenQ X.1 X.2.1 hK hO g22 dX3_readParts_22 ?_
    refine lv_icmp_ge (tgt := 64) X.1 X.2.1 dX3_readParts_23 rfl (fun hc9 => ?_) (fun hc9 => ?_)
    · have hw := hw.1 hc9
      refine lv_aload_nO X.1 X.2.1 dX3_readParts_64 rfl (lv_at hl 3 rfl) ?_
      refine W.widen (k := MC) (n := MS) hc.1 hc.2 ?_
      exact W.aret (v := va_rf x3) X.1 X.2.1 hr (Or.inl ⟨_, rfl⟩) (va_rf_or _) (fun t ht hW => ⟨⟨x3, σ, rfl, hw, cO_end hO hK ht hW⟩, hO.2.2.F ht⟩) hO.2.2.2.2 dX3_readParts_65 hlk
    · have hw := hw.2 hc9
      refine lv_aload_nO X.1 X.2.1 dX3_readParts_26 rfl (lv_at hl 3 rfl) ?_
      obtain ⟨v27, g27, hw⟩ := hw
      refine cg_X2_names X fX3_X2_names hK hO g27 dX3_readParts_27 ?_
      refine lv_iload X.1 X.2.1 dX3_readParts_30 (lv_at hl 4 rfl) ?_
      refine lv_iload_n X.1 X.2.1 dX3_readParts_32 rfl (lv_at hl 1 rfl) ?_
      refine lv_if_eq (tgt := 44) X.1 X.2.1 dX3_readParts_33 rfl (fun hc9 => ?_) (fun hc9 => ?_)
      · have hw := hw.1 hc9
        refine lv_iconst (v := -1) X.1 X.2.1 dX3_readParts_44 (by decide) ?_
        exact cB_X3_readParts_45 X hr hlk hR hK hA hRc hRV k16 x1 x2 x3 x4 (-1 : Int32) x4 v27 nc ns σ H locs ls (lv_sub hl [0, 1, 2, 3, 4] rfl) hO hc hw
      · have hw := hw.2 hc9
        refine lv_aload_n X.1 X.2.1 dX3_readParts_36 rfl (lv_at hl 0 rfl) ?_
        refine lv_iconst (v := 2) X.1 X.2.1 dX3_readParts_37 (by decide) ?_
        refine c_calli (rest := [.int x4, va_rf v27]) (As := [.int (2 : Int32)]) X (cC_X3_readConstant l dC dI b k σ H.size (2 : Int32) _ hw) (cwV 1 X.2.2.2.2 gX3_X3_readConstant rfl rfl rfl hdX3_readConstant ⟨Nat.le_trans (show 1 + 1 ≤ fr + 2 by omega) hR.1, Nat.le_trans (show 8 + (4 + 11) + (22) ≤ lo + 45 by omega) hR.2⟩) (cRecv_X3 hK hO) hK hA hO rfl hl.1 rfl (by cases v27 <;> exact Nat.le_of_ble_eq_true rfl) dX3_readParts_38 (by rw [hRc.1]; exact hc.1) (by rw [hRc.2]; exact hc.2) (fun r38 t38 H locs hO hw => ?_)
        refine lv_goto (tgt := 45) X.1 X.2.1 dX3_readParts_41 rfl ?_
        exact cB_X3_readParts_45 X hr hlk hR hK hA hRc hRV k16 x1 x2 x3 x4 r38 x4 v27 nc ns t38 H locs ls (lv_sub hl [0, 1, 2, 3, 4] rfl) hO hc hw
def C_X3_readParts_b0 (b : Nat → Nat) (k : Nat → ClassId) (RV : Nat → Nat → (Option Nat → cS → Prop) → Int32 → cS → Prop) (MC MS : Nat) (Q : Option Nat → cS → Prop) (x1 : Int32) (x2 : Int32) (nc : Nat) (ns : Nat) (σ : cS) : Prop :=
 nc + 1 ≤ MC ∧ ns + 2 ≤ MS ∧ ∀ (q0 : Nat) (t0 : cS), t0 = sN σ (q0, .inr (2, [.null, .null])) → C_X3_readAtMost_w b k (fun r6 t6 => ∃ mc9 ms9 : Nat, (nc + 1) + mc9 ≤ MC ∧ (ns + 2) + ms9 ≤ MS ∧ C_X2_init_w b k mc9 ms9 q0 (fun t9 => C_X3_readParts_b16 b k RV MC MS Q x1 x2 (some q0) (0 : Int32) ((nc + 1) + mc9) ((ns + 2) + ms9) t9) r6 t6) (4 : Int32) t0
set_option maxHeartbeats 4000000 in
set_option maxRecDepth 100000 in
theorem cB_X3_readParts_0 {RV : Nat → Nat → (Option Nat → cS → Prop) → Int32 → cS → Prop} {fr lo : Nat} {MC MS : Nat} {Q : Option Nat → cS → Prop} (X : CallFix p m c cX3_readParts 5 s args wsX3_readParts RX3) (hr : meth.sig.returnType = (some (.object "ClassFileIndex$Parts"))) (hlk : meth.locks = false) (hR : fr + 2 ≤ R.frames ∧ lo + 45 ≤ R.locals) (hK : cK dC dI k s) (hA : ∀ q, s.heap.size ≤ q → A q) (hRc : R.cells = MC ∧ R.slots = MS) (hRV : ∀ (σ : cS) (sz mc ms : Nat) (x1 : Int32) (Q : Option Nat → cS → Prop), RV mc ms Q x1 σ → Met l yX3_readValue wsX3_readValue { frames := fr, cells := mc, slots := ms, locals := lo } (cPc dC dI b k sz σ [.ref (b 10), .int x1]) (va_Qq Q (cAt dC dI (va_A (cCells b k σ) sz) b k) (va_A (cCells b k σ) sz)) mc ms (va_A (cCells b k σ) sz)) (x1 : Int32) (x2 : Int32) (nc : Nat) (ns : Nat) (σ : cS) (H : Heap) (locs : List Loc) (ls : Array Slot) (hl : lv_has ls 5 [(0, .ref (b 10)), (1, .int x1), (2, .int x2)]) (hO : cO dC dI b k A s.heap σ H locs) (hc : (nc ≤ MC ∧ ns ≤ MS)) (hw : C_X3_readParts_b0 b k RV MC MS Q x1 x2 nc ns σ) : W p l e R s m args below meth c H locs nc ns (MQ below (va_Qq Q (cAt dC dI A b k) A) args s MC MS A) (F0 m 0 ls []) := by
  unfold C_X3_readParts_b0 at hw
  obtain ⟨hc1, hc2, hw⟩ := hw
  have hc : nc + 1 ≤ MC ∧ ns + 2 ≤ MS := ⟨hc1, hc2⟩
  refine cn_X2 X nX3_X2 hK hO hA (by rw [hRc.1]; exact hc.1) (by rw [hRc.2]; exact hc.2) dX3_readParts_0 (fun q0 H hO => ?_)
  obtain ⟨t0, e0⟩ : ∃ z, z = sN σ (q0, .inr (2, [.null, .null])) := ⟨_, rfl⟩
  have hw := hw q0 t0 e0
  rw [← e0] at hO
  refine lv_dup X.1 X.2.1 dX3_readParts_3 rfl ?_
  refine lv_aload_n X.1 X.2.1 dX3_readParts_4 rfl (lv_at hl 0 rfl) ?_
  refine lv_iconst (v := 4) X.1 X.2.1 dX3_readParts_5 (by decide) ?_
  refine c_calli (rest := [.ref q0, .ref q0]) (As := [.int (4 : Int32)]) X (cC_X3_readAtMost l dC dI b k t0 H.size (4 : Int32) _ hw) (cwV 1 X.2.2.2.2 gX3_X3_readAtMost rfl rfl rfl hdX3_readAtMost ⟨Nat.le_trans (show 1 + 1 ≤ fr + 2 by omega) hR.1, Nat.le_trans (show 8 + (4 + 11) + (22) ≤ lo + 45 by omega) hR.2⟩) (cRecv_X3 hK hO) hK hA hO rfl hl.1 rfl (Nat.le_of_ble_eq_true rfl) dX3_readParts_6 (by rw [hRc.1]; exact hc.1) (by rw [hRc.2]; exact hc.2) (fun r6 t6 H locs hO hw => ?_)
  obtain ⟨mc9, ms9, hc1, hc2, hw⟩ := hw
  have hc : (nc + 1) + mc9 ≤ MC ∧ (ns + 2) + ms9 ≤ MS := ⟨hc1, hc2⟩
  refine c_init (rest := [.ref q0]) (As := [.int r6]) X (cC_X2_init l dC dI b k t6 H.size mc9 ms9 q0 r6 _ hw) (cwI 1 X.2.2.2.2 (gG kX2_init rfl) rfl rfl rfl (X.2.2.2.2 _ (List.mem_cons_of_mem _ iX2)) (X.2.2.2.2 _ (List.mem_cons_of_mem _ gX3_X2_init)) (X.2.2.2.2 _ (List.mem_cons_of_mem _ uX2_init)) rfl hdX2_init ⟨Nat.le_trans (show 1 + 1 ≤ fr + 2 by omega) hR.1, Nat.le_trans (show 8 + (2 + 11) + (20) ≤ lo + 45 by omega) hR.2⟩) hK hA hO rfl hl.1 rfl (Nat.le_of_ble_eq_true rfl) dX3_readParts_9 (by rw [hRc.1]; exact hc.1) (by rw [hRc.2]; exact hc.2) (fun t9 H locs hO hw => ?_)
  refine lv_astore_n (lv' := [(3, .ref q0), (0, .ref (b 10)), (1, .int x1), (2, .int x2)]) X.1 X.2.1 dX3_readParts_12 rfl hl (by decide) rfl (fun ls hl => ?_)
  refine lv_iconst (v := 0) X.1 X.2.1 dX3_readParts_13 (by decide) ?_
  refine lv_istore (lv' := [(4, .int (0 : Int32)), (3, .ref q0), (0, .ref (b 10)), (1, .int x1), (2, .int x2)]) X.1 X.2.1 dX3_readParts_14 hl (by decide) rfl (fun ls hl => ?_)
  obtain ⟨n, hw⟩ := hw
  exact cB_X3_readParts_16 X hr hlk hR hK hA hRc hRV n x1 x2 (some q0) (0 : Int32) ((nc + 1) + mc9) ((ns + 2) + ms9) t9 H locs ls (lv_sub hl [2, 3, 4, 1, 0] rfl) hO hc hw
def C_X3_readParts_w (b : Nat → Nat) (k : Nat → ClassId) (RV : Nat → Nat → (Option Nat → cS → Prop) → Int32 → cS → Prop) (MC MS : Nat) (Q : Option Nat → cS → Prop) (x1 : Int32) (x2 : Int32) (σ : cS) : Prop := C_X3_readParts_b0 b k RV MC MS Q x1 x2 0 0 σ
abbrev rmX3_readParts (fr lo : Nat) (MC MS : Nat) : Room := { frames := fr + 2, cells := MC, slots := MS, locals := lo + 45 }
set_option maxHeartbeats 4000000 in
set_option maxRecDepth 100000 in
theorem cC_X3_readParts (RV : Nat → Nat → (Option Nat → cS → Prop) → Int32 → cS → Prop) (fr lo : Nat) (l : Launch) (dC : Nat → ClassId) (dI : Nat → Nat → Nat) (b : Nat → Nat) (k : Nat → ClassId) (hRV : ∀ (σ : cS) (sz mc ms : Nat) (x1 : Int32) (Q : Option Nat → cS → Prop), RV mc ms Q x1 σ → Met l yX3_readValue wsX3_readValue { frames := fr, cells := mc, slots := ms, locals := lo } (cPc dC dI b k sz σ [.ref (b 10), .int x1]) (va_Qq Q (cAt dC dI (va_A (cCells b k σ) sz) b k) (va_A (cCells b k σ) sz)) mc ms (va_A (cCells b k σ) sz)) (σ : cS) (sz : Nat) (MC MS : Nat) (x1 : Int32) (x2 : Int32) (Q : Option Nat → cS → Prop) (hw : C_X3_readParts_w b k RV MC MS Q x1 x2 σ) : Met l yX3_readParts wsX3_readParts (rmX3_readParts fr lo MC MS) (cPc dC dI b k sz σ [.ref (b 10), .int x1, .int x2]) (va_Qq Q (cAt dC dI (va_A (cCells b k σ) sz) b k) (va_A (cCells b k σ) sz)) MC MS (va_A (cCells b k σ) sz) := by
  refine Met.ofW (cc := cX3_readParts) (maxL := 5) (ret := (some (.object "ClassFileIndex$Parts"))) (by decide) rfl ?_
  intro p e s m args below meth c s₁ B hml hv
  obtain ⟨hargs, hsz, hP, hK, hD0⟩ := hv
  have hts := atoms_spec (ws := wsX3_readParts) B.pre
  have hown : s.vm.findClass RX3 = some m.cls := findClass_of_methodNamed B.named
  subst hsz
  subst hargs
  have hD := hD0.self (sz := s.heap.size)
  generalize hAe : va_A (cCells b k σ) s.heap.size = A at hD ⊢
  have hA : ∀ q : Nat, s.heap.size ≤ q → A q := fun q h => by rw [← hAe]; exact Or.inr h
  have hl := lv_entry ([.ref (b 10), .int x1, .int x2]) (n := 5) (Nat.le_of_ble_eq_true rfl)
  rw [lg_entry_eq]
  generalize (lg_sl ([.ref (b 10), .int x1, .int x2]) ++ List.replicate (5 - (lg_sl ([.ref (b 10), .int x1, .int x2])).length) Slot.unset).toArray = ls at hl ⊢
  have hl : lv_has ls 5 [(0, .ref (b 10)), (1, .int x1), (2, .int x2)] := hl
  unfold C_X3_readParts_w at hw
  exact cB_X3_readParts_0 ⟨B.exec, B.bytes, hml, hown, hts⟩ B.returns B.notSynchronized ⟨Nat.le_refl _, Nat.le_refl _⟩ hK hA ⟨rfl, rfl⟩ hRV x1 x2 0 0 σ s.heap [] ls (lv_sub hl [0, 1, 2] rfl) ⟨hP, hD, va_S.rf⟩ ⟨Nat.zero_le _, Nat.zero_le _⟩ hw
def C_X3_readRow_b0 (b : Nat → Nat) (k : Nat → ClassId) (RV : Nat → Nat → (Option Nat → cS → Prop) → Int32 → cS → Prop) (MC MS : Nat) (Q : Option Nat → cS → Prop) (x1 : Int32) (nc : Nat) (ns : Nat) (σ : cS) : Prop :=
 ∃ mc3 ms3 : Nat, nc + mc3 ≤ MC ∧ ns + ms3 ≤ MS ∧ C_X3_readParts_w b k RV mc3 ms3 (fun r3 t3 => (nc + mc3) + 1 ≤ MC ∧ (ns + ms3) + 3 ≤ MS ∧ ∀ (q7 : Nat) (t7 : cS), t7 = sN t3 (q7, .inr (5, [.int 0, .int 0, .null])) → ∃ v13 : Option Nat, pR t7.2.2.2.2 r3 2 1 v13 ∧ ∃ (n16 : Nat) (f16 : Nat → Option Nat), pQ t7.2.2.2.2 v13 (k 3) n16 f16 ∧ C_X5_init_w b k q7 (fun t18 => Q (some q7) t18) (4 : Int32) (Int32.ofNat n16) r3 t7) (0 : Int32) x1 σ
set_option maxHeartbeats 4000000 in
set_option maxRecDepth 100000 in
theorem cB_X3_readRow_0 {RV : Nat → Nat → (Option Nat → cS → Prop) → Int32 → cS → Prop} {fr lo : Nat} {MC MS : Nat} {Q : Option Nat → cS → Prop} (X : CallFix p m c cX3_readRow 3 s args wsX3_readRow RX3) (hr : meth.sig.returnType = (some (.object "ClassFileIndex$Value"))) (hlk : meth.locks = false) (hR : fr + 3 ≤ R.frames ∧ lo + 69 ≤ R.locals) (hK : cK dC dI k s) (hA : ∀ q, s.heap.size ≤ q → A q) (hRc : R.cells = MC ∧ R.slots = MS) (hRV : ∀ (σ : cS) (sz mc ms : Nat) (x1 : Int32) (Q : Option Nat → cS → Prop), RV mc ms Q x1 σ → Met l yX3_readValue wsX3_readValue { frames := fr, cells := mc, slots := ms, locals := lo } (cPc dC dI b k sz σ [.ref (b 10), .int x1]) (va_Qq Q (cAt dC dI (va_A (cCells b k σ) sz) b k) (va_A (cCells b k σ) sz)) mc ms (va_A (cCells b k σ) sz)) (x1 : Int32) (nc : Nat) (ns : Nat) (σ : cS) (H : Heap) (locs : List Loc) (ls : Array Slot) (hl : lv_has ls 3 [(0, .ref (b 10)), (1, .int x1)]) (hO : cO dC dI b k A s.heap σ H locs) (hc : (nc ≤ MC ∧ ns ≤ MS)) (hw : C_X3_readRow_b0 b k RV MC MS Q x1 nc ns σ) : W p l e R s m args below meth c H locs nc ns (MQ below (va_Qq Q (cAt dC dI A b k) A) args s MC MS A) (F0 m 0 ls []) := by
  unfold C_X3_readRow_b0 at hw
  refine lv_aload_n X.1 X.2.1 dX3_readRow_0 rfl (lv_at hl 0 rfl) ?_
  refine lv_iconst (v := 0) X.1 X.2.1 dX3_readRow_1 (by decide) ?_
  refine lv_iload_n X.1 X.2.1 dX3_readRow_2 rfl (lv_at hl 1 rfl) ?_
  obtain ⟨mc3, ms3, hc1, hc2, hw⟩ := hw
  have hc : nc + mc3 ≤ MC ∧ ns + ms3 ≤ MS := ⟨hc1, hc2⟩
  refine c_callq (rest := []) (As := [.int (0 : Int32), .int x1]) X (cC_X3_readParts RV fr lo l dC dI b k hRV σ H.size mc3 ms3 (0 : Int32) x1 _ hw) (cwV 2 X.2.2.2.2 gX3_X3_readParts rfl rfl rfl hdX3_readParts ⟨Nat.le_trans (show fr + 2 + 1 ≤ fr + 3 by omega) hR.1, Nat.le_trans (show 8 + (5 + 11) + (lo + 45) ≤ lo + 69 by omega) hR.2⟩) (cRecv_X3 hK hO) hK hA hO rfl hl.1 rfl (Nat.le_of_ble_eq_true rfl) dX3_readRow_3 (by rw [hRc.1]; exact hc.1) (by rw [hRc.2]; exact hc.2) (fun r3 t3 H locs hO hw => ?_)
  refine lv_astore_nO (o := r3) (lv' := [(2, va_rf r3), (0, .ref (b 10)), (1, .int x1)]) X.1 X.2.1 dX3_readRow_6 rfl hl (by decide) rfl (fun ls hl => ?_)
  obtain ⟨hc1, hc2, hw⟩ := hw
  have hc : (nc + mc3) + 1 ≤ MC ∧ (ns + ms3) + 3 ≤ MS := ⟨hc1, hc2⟩
  refine cn_X5 X nX3_X5 hK hO hA (by rw [hRc.1]; exact hc.1) (by rw [hRc.2]; exact hc.2) dX3_readRow_7 (fun q7 H hO => ?_)
  obtain ⟨t7, e7⟩ : ∃ z, z = sN t3 (q7, .inr (5, [.int 0, .int 0, .null])) := ⟨_, rfl⟩
  have hw := hw q7 t7 e7
  rw [← e7] at hO
  refine lv_dup X.1 X.2.1 dX3_readRow_10 rfl ?_
  refine lv_iconst (v := 4) X.1 X.2.1 dX3_readRow_11 (by decide) ?_
  refine lv_aload_nO X.1 X.2.1 dX3_readRow_12 rfl (lv_at hl 0 rfl) ?_
  obtain ⟨v13, g13, hw⟩ := hw
  refine cg_X2_values X fX3_X2_values hK hO g13 dX3_readRow_13 ?_
  obtain ⟨n16, f16, g16, hw⟩ := hw
  refine clenQ X.1 X.2.1 hK hO g16 dX3_readRow_16 ?_
  refine lv_aload_nO X.1 X.2.1 dX3_readRow_17 rfl (lv_at hl 0 rfl) ?_
  refine c_init (rest := [.ref q7]) (As := [.int (4 : Int32), .int (Int32.ofNat n16), va_rf r3]) X (cC_X5_init l dC dI b k t7 H.size q7 (4 : Int32) (Int32.ofNat n16) r3 _ hw) (cwI 3 X.2.2.2.2 (gG kX5_init rfl) rfl rfl rfl (X.2.2.2.2 _ (List.mem_cons_of_mem _ iX5)) (X.2.2.2.2 _ (List.mem_cons_of_mem _ gX3_X5_init)) (X.2.2.2.2 _ (List.mem_cons_of_mem _ uX5_init)) rfl hdX5_init ⟨Nat.le_trans (show 1 + 1 ≤ fr + 3 by omega) hR.1, Nat.le_trans (show 8 + (4 + 11) + (20) ≤ lo + 69 by omega) hR.2⟩) hK hA hO rfl hl.1 rfl (Nat.le_of_ble_eq_true rfl) dX3_readRow_18 (by rw [hRc.1]; exact hc.1) (by rw [hRc.2]; exact hc.2) (fun t18 H locs hO hw => ?_)
  refine W.widen (k := MC) (n := MS) hc.1 hc.2 ?_
  exact W.aret (v := va_rf (some q7)) X.1 X.2.1 hr (Or.inl ⟨_, rfl⟩) (va_rf_or _) (fun t ht hW => ⟨⟨(some q7), t18, rfl, hw, cO_end hO hK ht hW⟩, hO.2.2.F ht⟩) hO.2.2.2.2 dX3_readRow_21 hlk
def C_X3_readRow_w (b : Nat → Nat) (k : Nat → ClassId) (RV : Nat → Nat → (Option Nat → cS → Prop) → Int32 → cS → Prop) (MC MS : Nat) (Q : Option Nat → cS → Prop) (x1 : Int32) (σ : cS) : Prop := C_X3_readRow_b0 b k RV MC MS Q x1 0 0 σ
abbrev rmX3_readRow (fr lo : Nat) (MC MS : Nat) : Room := { frames := fr + 3, cells := MC, slots := MS, locals := lo + 69 }
set_option maxHeartbeats 4000000 in
set_option maxRecDepth 100000 in
theorem cC_X3_readRow (RV : Nat → Nat → (Option Nat → cS → Prop) → Int32 → cS → Prop) (fr lo : Nat) (l : Launch) (dC : Nat → ClassId) (dI : Nat → Nat → Nat) (b : Nat → Nat) (k : Nat → ClassId) (hRV : ∀ (σ : cS) (sz mc ms : Nat) (x1 : Int32) (Q : Option Nat → cS → Prop), RV mc ms Q x1 σ → Met l yX3_readValue wsX3_readValue { frames := fr, cells := mc, slots := ms, locals := lo } (cPc dC dI b k sz σ [.ref (b 10), .int x1]) (va_Qq Q (cAt dC dI (va_A (cCells b k σ) sz) b k) (va_A (cCells b k σ) sz)) mc ms (va_A (cCells b k σ) sz)) (σ : cS) (sz : Nat) (MC MS : Nat) (x1 : Int32) (Q : Option Nat → cS → Prop) (hw : C_X3_readRow_w b k RV MC MS Q x1 σ) : Met l yX3_readRow wsX3_readRow (rmX3_readRow fr lo MC MS) (cPc dC dI b k sz σ [.ref (b 10), .int x1]) (va_Qq Q (cAt dC dI (va_A (cCells b k σ) sz) b k) (va_A (cCells b k σ) sz)) MC MS (va_A (cCells b k σ) sz) := by
  refine Met.ofW (cc := cX3_readRow) (maxL := 3) (ret := (some (.object "ClassFileIndex$Value"))) (by decide) rfl ?_
  intro p e s m args below meth c s₁ B hml hv
  obtain ⟨hargs, hsz, hP, hK, hD0⟩ := hv
  have hts := atoms_spec (ws := wsX3_readRow) B.pre
  have hown : s.vm.findClass RX3 = some m.cls := findClass_of_methodNamed B.named
  subst hsz
  subst hargs
  have hD := hD0.self (sz := s.heap.size)
  generalize hAe : va_A (cCells b k σ) s.heap.size = A at hD ⊢
  have hA : ∀ q : Nat, s.heap.size ≤ q → A q := fun q h => by rw [← hAe]; exact Or.inr h
  have hl := lv_entry ([.ref (b 10), .int x1]) (n := 3) (Nat.le_of_ble_eq_true rfl)
  rw [lg_entry_eq]
  generalize (lg_sl ([.ref (b 10), .int x1]) ++ List.replicate (3 - (lg_sl ([.ref (b 10), .int x1])).length) Slot.unset).toArray = ls at hl ⊢
  have hl : lv_has ls 3 [(0, .ref (b 10)), (1, .int x1)] := hl
  unfold C_X3_readRow_w at hw
  exact cB_X3_readRow_0 ⟨B.exec, B.bytes, hml, hown, hts⟩ B.returns B.notSynchronized ⟨Nat.le_refl _, Nat.le_refl _⟩ hK hA ⟨rfl, rfl⟩ hRV x1 0 0 σ s.heap [] ls (lv_sub hl [0, 1] rfl) ⟨hP, hD, va_S.rf⟩ ⟨Nat.zero_le _, Nat.zero_le _⟩ hw
def C_X3_readAnnotation_b0 (b : Nat → Nat) (k : Nat → ClassId) (RV : Nat → Nat → (Option Nat → cS → Prop) → Int32 → cS → Prop) (MC MS : Nat) (Q : Option Nat → cS → Prop) (x1 : Int32) (nc : Nat) (ns : Nat) (σ : cS) : Prop :=
 C_X3_readConstant_w b k (fun r2 t2 => nc + 1 ≤ MC ∧ ns + 3 ≤ MS ∧ ∀ (q6 : Nat) (t6 : cS), t6 = sN t2 (q6, .inr (5, [.int 0, .int 0, .null])) → ∃ mc15 ms15 : Nat, (nc + 1) + mc15 ≤ MC ∧ (ns + 3) + ms15 ≤ MS ∧ C_X3_readParts_w b k RV mc15 ms15 (fun r15 t15 => C_X5_init_w b k q6 (fun t18 => Q (some q6) t18) (5 : Int32) r2 r15 t15) (1 : Int32) x1 t6) (3 : Int32) σ
set_option maxHeartbeats 4000000 in
set_option maxRecDepth 100000 in
theorem cB_X3_readAnnotation_0 {RV : Nat → Nat → (Option Nat → cS → Prop) → Int32 → cS → Prop} {fr lo : Nat} {MC MS : Nat} {Q : Option Nat → cS → Prop} (X : CallFix p m c cX3_readAnnotation 3 s args wsX3_readAnnotation RX3) (hr : meth.sig.returnType = (some (.object "ClassFileIndex$Value"))) (hlk : meth.locks = false) (hR : fr + 3 ≤ R.frames ∧ lo + 69 ≤ R.locals) (hK : cK dC dI k s) (hA : ∀ q, s.heap.size ≤ q → A q) (hRc : R.cells = MC ∧ R.slots = MS) (hRV : ∀ (σ : cS) (sz mc ms : Nat) (x1 : Int32) (Q : Option Nat → cS → Prop), RV mc ms Q x1 σ → Met l yX3_readValue wsX3_readValue { frames := fr, cells := mc, slots := ms, locals := lo } (cPc dC dI b k sz σ [.ref (b 10), .int x1]) (va_Qq Q (cAt dC dI (va_A (cCells b k σ) sz) b k) (va_A (cCells b k σ) sz)) mc ms (va_A (cCells b k σ) sz)) (x1 : Int32) (nc : Nat) (ns : Nat) (σ : cS) (H : Heap) (locs : List Loc) (ls : Array Slot) (hl : lv_has ls 3 [(0, .ref (b 10)), (1, .int x1)]) (hO : cO dC dI b k A s.heap σ H locs) (hc : (nc ≤ MC ∧ ns ≤ MS)) (hw : C_X3_readAnnotation_b0 b k RV MC MS Q x1 nc ns σ) : W p l e R s m args below meth c H locs nc ns (MQ below (va_Qq Q (cAt dC dI A b k) A) args s MC MS A) (F0 m 0 ls []) := by
  unfold C_X3_readAnnotation_b0 at hw
  refine lv_aload_n X.1 X.2.1 dX3_readAnnotation_0 rfl (lv_at hl 0 rfl) ?_
  refine lv_iconst (v := 3) X.1 X.2.1 dX3_readAnnotation_1 (by decide) ?_
  refine c_calli (rest := []) (As := [.int (3 : Int32)]) X (cC_X3_readConstant l dC dI b k σ H.size (3 : Int32) _ hw) (cwV 1 X.2.2.2.2 gX3_X3_readConstant rfl rfl rfl hdX3_readConstant ⟨Nat.le_trans (show 1 + 1 ≤ fr + 3 by omega) hR.1, Nat.le_trans (show 8 + (4 + 11) + (22) ≤ lo + 69 by omega) hR.2⟩) (cRecv_X3 hK hO) hK hA hO rfl hl.1 rfl (Nat.le_of_ble_eq_true rfl) dX3_readAnnotation_2 (by rw [hRc.1]; exact hc.1) (by rw [hRc.2]; exact hc.2) (fun r2 t2 H locs hO hw => ?_)
  refine lv_istore_n (lv' := [(2, .int r2), (0, .ref (b 10)), (1, .int x1)]) X.1 X.2.1 dX3_readAnnotation_5 rfl hl (by decide) rfl (fun ls hl => ?_)
  obtain ⟨hc1, hc2, hw⟩ := hw
  have hc : nc + 1 ≤ MC ∧ ns + 3 ≤ MS := ⟨hc1, hc2⟩
  refine cn_X5 X nX3_X5 hK hO hA (by rw [hRc.1]; exact hc.1) (by rw [hRc.2]; exact hc.2) dX3_readAnnotation_6 (fun q6 H hO => ?_)
  obtain ⟨t6, e6⟩ : ∃ z, z = sN t2 (q6, .inr (5, [.int 0, .int 0, .null])) := ⟨_, rfl⟩
  have hw := hw q6 t6 e6
  rw [← e6] at hO
  refine lv_dup X.1 X.2.1 dX3_readAnnotation_9 rfl ?_
  refine lv_iconst (v := 5) X.1 X.2.1 dX3_readAnnotation_10 (by decide) ?_
  refine lv_iload_n X.1 X.2.1 dX3_readAnnotation_11 rfl (lv_at hl 0 rfl) ?_
  refine lv_aload_n X.1 X.2.1 dX3_readAnnotation_12 rfl (lv_at hl 1 rfl) ?_
  refine lv_iconst (v := 1) X.1 X.2.1 dX3_readAnnotation_13 (by decide) ?_
  refine lv_iload_n X.1 X.2.1 dX3_readAnnotation_14 rfl (lv_at hl 2 rfl) ?_
  obtain ⟨mc15, ms15, hc1, hc2, hw⟩ := hw
  have hc : (nc + 1) + mc15 ≤ MC ∧ (ns + 3) + ms15 ≤ MS := ⟨hc1, hc2⟩
  refine c_callq (rest := [.int r2, .int (5 : Int32), .ref q6, .ref q6]) (As := [.int (1 : Int32), .int x1]) X (cC_X3_readParts RV fr lo l dC dI b k hRV t6 H.size mc15 ms15 (1 : Int32) x1 _ hw) (cwV 2 X.2.2.2.2 gX3_X3_readParts rfl rfl rfl hdX3_readParts ⟨Nat.le_trans (show fr + 2 + 1 ≤ fr + 3 by omega) hR.1, Nat.le_trans (show 8 + (5 + 11) + (lo + 45) ≤ lo + 69 by omega) hR.2⟩) (cRecv_X3 hK hO) hK hA hO rfl hl.1 rfl (Nat.le_of_ble_eq_true rfl) dX3_readAnnotation_15 (by rw [hRc.1]; exact hc.1) (by rw [hRc.2]; exact hc.2) (fun r15 t15 H locs hO hw => ?_)
  refine c_init (rest := [.ref q6]) (As := [.int (5 : Int32), .int r2, va_rf r15]) X (cC_X5_init l dC dI b k t15 H.size q6 (5 : Int32) r2 r15 _ hw) (cwI 3 X.2.2.2.2 (gG kX5_init rfl) rfl rfl rfl (X.2.2.2.2 _ (List.mem_cons_of_mem _ iX5)) (X.2.2.2.2 _ (List.mem_cons_of_mem _ gX3_X5_init)) (X.2.2.2.2 _ (List.mem_cons_of_mem _ uX5_init)) rfl hdX5_init ⟨Nat.le_trans (show 1 + 1 ≤ fr + 3 by omega) hR.1, Nat.le_trans (show 8 + (4 + 11) + (20) ≤ lo + 69 by omega) hR.2⟩) hK hA hO rfl hl.1 rfl (Nat.le_of_ble_eq_true rfl) dX3_readAnnotation_18 (by rw [hRc.1]; exact hc.1) (by rw [hRc.2]; exact hc.2) (fun t18 H locs hO hw => ?_)
  refine W.widen (k := MC) (n := MS) hc.1 hc.2 ?_
  exact W.aret (v := va_rf (some q6)) X.1 X.2.1 hr (Or.inl ⟨_, rfl⟩) (va_rf_or _) (fun t ht hW => ⟨⟨(some q6), t18, rfl, hw, cO_end hO hK ht hW⟩, hO.2.2.F ht⟩) hO.2.2.2.2 dX3_readAnnotation_21 hlk
def C_X3_readAnnotation_w (b : Nat → Nat) (k : Nat → ClassId) (RV : Nat → Nat → (Option Nat → cS → Prop) → Int32 → cS → Prop) (MC MS : Nat) (Q : Option Nat → cS → Prop) (x1 : Int32) (σ : cS) : Prop := C_X3_readAnnotation_b0 b k RV MC MS Q x1 0 0 σ
abbrev rmX3_readAnnotation (fr lo : Nat) (MC MS : Nat) : Room := { frames := fr + 3, cells := MC, slots := MS, locals := lo + 69 }
set_option maxHeartbeats 4000000 in
set_option maxRecDepth 100000 in
theorem cC_X3_readAnnotation (RV : Nat → Nat → (Option Nat → cS → Prop) → Int32 → cS → Prop) (fr lo : Nat) (l : Launch) (dC : Nat → ClassId) (dI : Nat → Nat → Nat) (b : Nat → Nat) (k : Nat → ClassId) (hRV : ∀ (σ : cS) (sz mc ms : Nat) (x1 : Int32) (Q : Option Nat → cS → Prop), RV mc ms Q x1 σ → Met l yX3_readValue wsX3_readValue { frames := fr, cells := mc, slots := ms, locals := lo } (cPc dC dI b k sz σ [.ref (b 10), .int x1]) (va_Qq Q (cAt dC dI (va_A (cCells b k σ) sz) b k) (va_A (cCells b k σ) sz)) mc ms (va_A (cCells b k σ) sz)) (σ : cS) (sz : Nat) (MC MS : Nat) (x1 : Int32) (Q : Option Nat → cS → Prop) (hw : C_X3_readAnnotation_w b k RV MC MS Q x1 σ) : Met l yX3_readAnnotation wsX3_readAnnotation (rmX3_readAnnotation fr lo MC MS) (cPc dC dI b k sz σ [.ref (b 10), .int x1]) (va_Qq Q (cAt dC dI (va_A (cCells b k σ) sz) b k) (va_A (cCells b k σ) sz)) MC MS (va_A (cCells b k σ) sz) := by
  refine Met.ofW (cc := cX3_readAnnotation) (maxL := 3) (ret := (some (.object "ClassFileIndex$Value"))) (by decide) rfl ?_
  intro p e s m args below meth c s₁ B hml hv
  obtain ⟨hargs, hsz, hP, hK, hD0⟩ := hv
  have hts := atoms_spec (ws := wsX3_readAnnotation) B.pre
  have hown : s.vm.findClass RX3 = some m.cls := findClass_of_methodNamed B.named
  subst hsz
  subst hargs
  have hD := hD0.self (sz := s.heap.size)
  generalize hAe : va_A (cCells b k σ) s.heap.size = A at hD ⊢
  have hA : ∀ q : Nat, s.heap.size ≤ q → A q := fun q h => by rw [← hAe]; exact Or.inr h
  have hl := lv_entry ([.ref (b 10), .int x1]) (n := 3) (Nat.le_of_ble_eq_true rfl)
  rw [lg_entry_eq]
  generalize (lg_sl ([.ref (b 10), .int x1]) ++ List.replicate (3 - (lg_sl ([.ref (b 10), .int x1])).length) Slot.unset).toArray = ls at hl ⊢
  have hl : lv_has ls 3 [(0, .ref (b 10)), (1, .int x1)] := hl
  unfold C_X3_readAnnotation_w at hw
  exact cB_X3_readAnnotation_0 ⟨B.exec, B.bytes, hml, hown, hts⟩ B.returns B.notSynchronized ⟨Nat.le_refl _, Nat.le_refl _⟩ hK hA ⟨rfl, rfl⟩ hRV x1 0 0 σ s.heap [] ls (lv_sub hl [0, 1] rfl) ⟨hP, hD, va_S.rf⟩ ⟨Nat.zero_le _, Nat.zero_le _⟩ hw
end
