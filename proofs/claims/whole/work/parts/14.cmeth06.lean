section
variable {p : Program} {l : Launch} {e : Env} {R : Room} {s : State} {m : MethodId} {args : Array Value} {below : List Frame} {meth : Method} {c : Code}
variable {dC : Nat → ClassId} {dI : Nat → Nat → Nat} {b : Nat → Nat} {k : Nat → ClassId} {A : Nat → Prop}
def C_X6_flags_b27 (b : Nat → Nat) (k : Nat → ClassId) (Q : Int32 → cS → Prop) (y0 : Int32) (σ : cS) : Prop :=
 Q y0 σ
set_option maxHeartbeats 4000000 in
set_option maxRecDepth 100000 in
theorem cB_X6_flags_27 {Q : Int32 → cS → Prop} (X : CallFix p m c cX6_flags 2 s args wsX6_flags RX6) (hr : meth.sig.returnType = (some .int)) (hlk : meth.locks = false) (hR : 1 ≤ R.frames ∧ 21 ≤ R.locals) (hK : cK dC dI k s) (hA : ∀ q, s.heap.size ≤ q → A q) (y0 : Int32) (σ : cS) (H : Heap) (locs : List Loc) (ls : Array Slot) (hl : lv_has ls 2 [(0, .ref (b 0))]) (hO : cO dC dI b k A s.heap σ H locs) (hw : C_X6_flags_b27 b k Q y0 σ) : W p l e R s m args below meth c H locs 0 0 (MQ below (va_Qi Q (cAt dC dI A b k) A) args s 0 0 A) (F0 m 27 ls [.int y0]) := by
  unfold C_X6_flags_b27 at hw
  exact W.iret (v := y0) X.1 X.2.1 hr (fun t ht hW => ⟨⟨y0, σ, rfl, hw, cO_end hO hK ht hW⟩, hO.2.2.F ht⟩) hO.2.2.2.2 dX6_flags_27 hlk
def C_X6_flags_b0 (b : Nat → Nat) (k : Nat → ClassId) (Q : Int32 → cS → Prop) (x1 : Int32) (σ : cS) : Prop :=
 C_X1_has_w b k (fun r5 t5 => (r5 = 0 → C_X6_flags_b27 b k Q (-1 : Int32) t5) ∧ (¬ r5 = 0 → vp_in x1 16 ∧ ∃ v20 : Int32, pI t5.2.2.2.2 (t5.2.2.1 x1.toNatClampNeg) 0 1 v20 ∧ C_X6_flags_b27 b k Q v20 t5)) x1 σ
set_option maxHeartbeats 4000000 in
set_option maxRecDepth 100000 in
theorem cB_X6_flags_0 {Q : Int32 → cS → Prop} (X : CallFix p m c cX6_flags 2 s args wsX6_flags RX6) (hr : meth.sig.returnType = (some .int)) (hlk : meth.locks = false) (hR : 1 ≤ R.frames ∧ 21 ≤ R.locals) (hK : cK dC dI k s) (hA : ∀ q, s.heap.size ≤ q → A q) (x1 : Int32) (σ : cS) (H : Heap) (locs : List Loc) (ls : Array Slot) (hl : lv_has ls 2 [(0, .ref (b 0)), (1, .int x1)]) (hO : cO dC dI b k A s.heap σ H locs) (hw : C_X6_flags_b0 b k Q x1 σ) : W p l e R s m args below meth c H locs 0 0 (MQ below (va_Qi Q (cAt dC dI A b k) A) args s 0 0 A) (F0 m 0 ls []) := by
  unfold C_X6_flags_b0 at hw
  refine lv_aload_n X.1 X.2.1 dX6_flags_0 rfl (lv_at hl 0 rfl) ?_
  refine cf_X6_knownClasses X fX6_X6_knownClasses hK hO dX6_flags_1 ?_
  refine lv_iload_n X.1 X.2.1 dX6_flags_4 rfl (lv_at hl 1 rfl) ?_
  refine c_calli (rest := []) (As := [.int x1]) X (cC_X1_has l dC dI b k σ H.size x1 _ hw) (cwV 1 X.2.2.2.2 gX6_X1_has rfl rfl rfl hdX1_has ⟨Nat.le_trans (show 0 + 1 ≤ 1 by decide) hR.1, Nat.le_trans (show 8 + (2 + 11) + 0 ≤ 21 by decide) hR.2⟩) (cRecv_X1 hK hO) hK hA hO rfl hl.1 rfl (Nat.le_of_ble_eq_true rfl) dX6_flags_5 (Nat.zero_le _) (Nat.zero_le _) (fun r5 t5 H locs hO hw => ?_)
  refine lv_if_eq (tgt := 26) X.1 X.2.1 dX6_flags_8 rfl (fun hc9 => ?_) (fun hc9 => ?_)
  · have hw := hw.1 hc9
    refine lv_iconst (v := -1) X.1 X.2.1 dX6_flags_26 (by decide) ?_
    exact cB_X6_flags_27 X hr hlk hR hK hA (-1 : Int32) t5 H locs ls (lv_sub hl [0] rfl) hO hw
  · have hw := hw.2 hc9
    refine lv_aload_n X.1 X.2.1 dX6_flags_11 rfl (lv_at hl 0 rfl) ?_
    refine cf_X6_knownClasses X fX6_X6_knownClasses hK hO dX6_flags_12 ?_
    refine cf_X1_files X fX6_X1_files hK hO dX6_flags_15 ?_
    refine lv_iload_n X.1 X.2.1 dX6_flags_18 rfl (lv_at hl 1 rfl) ?_
    obtain ⟨g19, hw⟩ := hw
    refine ca_6 X.1 X.2.1 hK hO g19 dX6_flags_19 ?_
    obtain ⟨v20, g20, hw⟩ := hw
    refine cg_X0_flags X fX6_X0_flags hK hO g20 dX6_flags_20 ?_
    refine lv_goto (tgt := 27) X.1 X.2.1 dX6_flags_23 rfl ?_
    exact cB_X6_flags_27 X hr hlk hR hK hA v20 t5 H locs ls (lv_sub hl [0] rfl) hO hw
def C_X6_flags_w (b : Nat → Nat) (k : Nat → ClassId) (Q : Int32 → cS → Prop) (x1 : Int32) (σ : cS) : Prop := C_X6_flags_b0 b k Q x1 σ
abbrev rmX6_flags : Room := { frames := 1, cells := 0, slots := 0, locals := 21 }
set_option maxHeartbeats 4000000 in
set_option maxRecDepth 100000 in
theorem cC_X6_flags (l : Launch) (dC : Nat → ClassId) (dI : Nat → Nat → Nat) (b : Nat → Nat) (k : Nat → ClassId) (σ : cS) (sz : Nat) (x1 : Int32) (Q : Int32 → cS → Prop) (hw : C_X6_flags_w b k Q x1 σ) : Met l yX6_flags wsX6_flags rmX6_flags (cPc dC dI b k sz σ [.ref (b 0), .int x1]) (va_Qi Q (cAt dC dI (va_A (cCells b k σ) sz) b k) (va_A (cCells b k σ) sz)) 0 0 (va_A (cCells b k σ) sz) := by
  refine Met.ofW (cc := cX6_flags) (maxL := 2) (ret := (some .int)) (by decide) rfl ?_
  intro p e s m args below meth c s₁ B hml hv
  obtain ⟨hargs, hsz, hP, hK, hD0⟩ := hv
  have hts := atoms_spec (ws := wsX6_flags) B.pre
  have hown : s.vm.findClass RX6 = some m.cls := findClass_of_methodNamed B.named
  subst hsz
  subst hargs
  have hD := hD0.self (sz := s.heap.size)
  generalize hAe : va_A (cCells b k σ) s.heap.size = A at hD ⊢
  have hA : ∀ q : Nat, s.heap.size ≤ q → A q := fun q h => by rw [← hAe]; exact Or.inr h
  have hl := lv_entry ([.ref (b 0), .int x1]) (n := 2) (Nat.le_of_ble_eq_true rfl)
  rw [lg_entry_eq]
  generalize (lg_sl ([.ref (b 0), .int x1]) ++ List.replicate (2 - (lg_sl ([.ref (b 0), .int x1])).length) Slot.unset).toArray = ls at hl ⊢
  have hl : lv_has ls 2 [(0, .ref (b 0)), (1, .int x1)] := hl
  unfold C_X6_flags_w at hw
  exact cB_X6_flags_0 ⟨B.exec, B.bytes, hml, hown, hts⟩ B.returns B.notSynchronized ⟨Nat.le_of_ble_eq_true rfl, Nat.le_of_ble_eq_true rfl⟩ hK hA x1 σ s.heap [] ls (lv_sub hl [0, 1] rfl) ⟨hP, hD, va_S.rf⟩ hw
def C_X6_superName_b27 (b : Nat → Nat) (k : Nat → ClassId) (Q : Int32 → cS → Prop) (y0 : Int32) (σ : cS) : Prop :=
 Q y0 σ
set_option maxHeartbeats 4000000 in
set_option maxRecDepth 100000 in
theorem cB_X6_superName_27 {Q : Int32 → cS → Prop} (X : CallFix p m c cX6_superName 2 s args wsX6_superName RX6) (hr : meth.sig.returnType = (some .int)) (hlk : meth.locks = false) (hR : 1 ≤ R.frames ∧ 21 ≤ R.locals) (hK : cK dC dI k s) (hA : ∀ q, s.heap.size ≤ q → A q) (y0 : Int32) (σ : cS) (H : Heap) (locs : List Loc) (ls : Array Slot) (hl : lv_has ls 2 [(0, .ref (b 0))]) (hO : cO dC dI b k A s.heap σ H locs) (hw : C_X6_superName_b27 b k Q y0 σ) : W p l e R s m args below meth c H locs 0 0 (MQ below (va_Qi Q (cAt dC dI A b k) A) args s 0 0 A) (F0 m 27 ls [.int y0]) := by
  unfold C_X6_superName_b27 at hw
  exact W.iret (v := y0) X.1 X.2.1 hr (fun t ht hW => ⟨⟨y0, σ, rfl, hw, cO_end hO hK ht hW⟩, hO.2.2.F ht⟩) hO.2.2.2.2 dX6_superName_27 hlk
def C_X6_superName_b0 (b : Nat → Nat) (k : Nat → ClassId) (Q : Int32 → cS → Prop) (x1 : Int32) (σ : cS) : Prop :=
 C_X1_has_w b k (fun r5 t5 => (r5 = 0 → C_X6_superName_b27 b k Q (-1 : Int32) t5) ∧ (¬ r5 = 0 → vp_in x1 16 ∧ ∃ v20 : Int32, pI t5.2.2.2.2 (t5.2.2.1 x1.toNatClampNeg) 0 2 v20 ∧ C_X6_superName_b27 b k Q v20 t5)) x1 σ
set_option maxHeartbeats 4000000 in
set_option maxRecDepth 100000 in
theorem cB_X6_superName_0 {Q : Int32 → cS → Prop} (X : CallFix p m c cX6_superName 2 s args wsX6_superName RX6) (hr : meth.sig.returnType = (some .int)) (hlk : meth.locks = false) (hR : 1 ≤ R.frames ∧ 21 ≤ R.locals) (hK : cK dC dI k s) (hA : ∀ q, s.heap.size ≤ q → A q) (x1 : Int32) (σ : cS) (H : Heap) (locs : List Loc) (ls : Array Slot) (hl : lv_has ls 2 [(0, .ref (b 0)), (1, .int x1)]) (hO : cO dC dI b k A s.heap σ H locs) (hw : C_X6_superName_b0 b k Q x1 σ) : W p l e R s m args below meth c H locs 0 0 (MQ below (va_Qi Q (cAt dC dI A b k) A) args s 0 0 A) (F0 m 0 ls []) := by
  unfold C_X6_superName_b0 at hw
  refine lv_aload_n X.1 X.2.1 dX6_superName_0 rfl (lv_at hl 0 rfl) ?_
  refine cf_X6_knownClasses X fX6_X6_knownClasses hK hO dX6_superName_1 ?_
  refine lv_iload_n X.1 X.2.1 dX6_superName_4 rfl (lv_at hl 1 rfl) ?_
  refine c_calli (rest := []) (As := [.int x1]) X (cC_X1_has l dC dI b k σ H.size x1 _ hw) (cwV 1 X.2.2.2.2 gX6_X1_has rfl rfl rfl hdX1_has ⟨Nat.le_trans (show 0 + 1 ≤ 1 by decide) hR.1, Nat.le_trans (show 8 + (2 + 11) + 0 ≤ 21 by decide) hR.2⟩) (cRecv_X1 hK hO) hK hA hO rfl hl.1 rfl (Nat.le_of_ble_eq_true rfl) dX6_superName_5 (Nat.zero_le _) (Nat.zero_le _) (fun r5 t5 H locs hO hw => ?_)
  refine lv_if_eq (tgt := 26) X.1 X.2.1 dX6_superName_8 rfl (fun hc9 => ?_) (fun hc9 => ?_)
  · have hw := hw.1 hc9
    refine lv_iconst (v := -1) X.1 X.2.1 dX6_superName_26 (by decide) ?_
    exact cB_X6_superName_27 X hr hlk hR hK hA (-1 : Int32) t5 H locs ls (lv_sub hl [0] rfl) hO hw
  · have hw := hw.2 hc9
    refine lv_aload_n X.1 X.2.1 dX6_superName_11 rfl (lv_at hl 0 rfl) ?_
    refine cf_X6_knownClasses X fX6_X6_knownClasses hK hO dX6_superName_12 ?_
    refine cf_X1_files X fX6_X1_files hK hO dX6_superName_15 ?_
    refine lv_iload_n X.1 X.2.1 dX6_superName_18 rfl (lv_at hl 1 rfl) ?_
    obtain ⟨g19, hw⟩ := hw
    refine ca_6 X.1 X.2.1 hK hO g19 dX6_superName_19 ?_
    obtain ⟨v20, g20, hw⟩ := hw
    refine cg_X0_superName X fX6_X0_superName hK hO g20 dX6_superName_20 ?_
    refine lv_goto (tgt := 27) X.1 X.2.1 dX6_superName_23 rfl ?_
    exact cB_X6_superName_27 X hr hlk hR hK hA v20 t5 H locs ls (lv_sub hl [0] rfl) hO hw
def C_X6_superName_w (b : Nat → Nat) (k : Nat → ClassId) (Q : Int32 → cS → Prop) (x1 : Int32) (σ : cS) : Prop := C_X6_superName_b0 b k Q x1 σ
abbrev rmX6_superName : Room := { frames := 1, cells := 0, slots := 0, locals := 21 }
set_option maxHeartbeats 4000000 in
set_option maxRecDepth 100000 in
theorem cC_X6_superName (l : Launch) (dC : Nat → ClassId) (dI : Nat → Nat → Nat) (b : Nat → Nat) (k : Nat → ClassId) (σ : cS) (sz : Nat) (x1 : Int32) (Q : Int32 → cS → Prop) (hw : C_X6_superName_w b k Q x1 σ) : Met l yX6_superName wsX6_superName rmX6_superName (cPc dC dI b k sz σ [.ref (b 0), .int x1]) (va_Qi Q (cAt dC dI (va_A (cCells b k σ) sz) b k) (va_A (cCells b k σ) sz)) 0 0 (va_A (cCells b k σ) sz) := by
  refine Met.ofW (cc := cX6_superName) (maxL := 2) (ret := (some .int)) (by decide) rfl ?_
  intro p e s m args below meth c s₁ B hml hv
  obtain ⟨hargs, hsz, hP, hK, hD0⟩ := hv
  have hts := atoms_spec (ws := wsX6_superName) B.pre
  have hown : s.vm.findClass RX6 = some m.cls := findClass_of_methodNamed B.named
  subst hsz
  subst hargs
  have hD := hD0.self (sz := s.heap.size)
  generalize hAe : va_A (cCells b k σ) s.heap.size = A at hD ⊢
  have hA : ∀ q : Nat, s.heap.size ≤ q → A q := fun q h => by rw [← hAe]; exact Or.inr h
  have hl := lv_entry ([.ref (b 0), .int x1]) (n := 2) (Nat.le_of_ble_eq_true rfl)
  rw [lg_entry_eq]
  generalize (lg_sl ([.ref (b 0), .int x1]) ++ List.replicate (2 - (lg_sl ([.ref (b 0), .int x1])).length) Slot.unset).toArray = ls at hl ⊢
  have hl : lv_has ls 2 [(0, .ref (b 0)), (1, .int x1)] := hl
  unfold C_X6_superName_w at hw
  exact cB_X6_superName_0 ⟨B.exec, B.bytes, hml, hown, hts⟩ B.returns B.notSynchronized ⟨Nat.le_of_ble_eq_true rfl, Nat.le_of_ble_eq_true rfl⟩ hK hA x1 σ s.heap [] ls (lv_sub hl [0, 1] rfl) ⟨hP, hD, va_S.rf⟩ hw
def C_X6_areThere_b27 (b : Nat → Nat) (k : Nat → ClassId) (Q : Int32 → cS → Prop) (y0 : Int32) (σ : cS) : Prop :=
 zb y0 ∧ Q y0 σ
set_option maxHeartbeats 4000000 in
set_option maxRecDepth 100000 in
theorem cB_X6_areThere_27 {Q : Int32 → cS → Prop} (X : CallFix p m c cX6_areThere 3 s args wsX6_areThere RX6) (hr : meth.sig.returnType = (some .boolean)) (hlk : meth.locks = false) (hR : 1 ≤ R.frames ∧ 21 ≤ R.locals) (hK : cK dC dI k s) (hA : ∀ q, s.heap.size ≤ q → A q) (y0 : Int32) (σ : cS) (H : Heap) (locs : List Loc) (ls : Array Slot) (hl : lv_has ls 3 [(0, .ref (b 0))]) (hO : cO dC dI b k A s.heap σ H locs) (hw : C_X6_areThere_b27 b k Q y0 σ) : W p l e R s m args below meth c H locs 0 0 (MQ below (va_Qi Q (cAt dC dI A b k) A) args s 0 0 A) (F0 m 27 ls [.int y0]) := by
  unfold C_X6_areThere_b27 at hw
  obtain ⟨hz, hw⟩ := hw
  exact W.zret (v := y0) X.1 X.2.1 hr hz (fun t ht hW => ⟨⟨y0, σ, rfl, hw, cO_end hO hK ht hW⟩, hO.2.2.F ht⟩) hO.2.2.2.2 dX6_areThere_27 hlk
def C_X6_areThere_b26 (b : Nat → Nat) (k : Nat → ClassId) (Q : Int32 → cS → Prop) (σ : cS) : Prop :=
 C_X6_areThere_b27 b k Q (0 : Int32) σ
set_option maxHeartbeats 4000000 in
set_option maxRecDepth 100000 in
theorem cB_X6_areThere_26 {Q : Int32 → cS → Prop} (X : CallFix p m c cX6_areThere 3 s args wsX6_areThere RX6) (hr : meth.sig.returnType = (some .boolean)) (hlk : meth.locks = false) (hR : 1 ≤ R.frames ∧ 21 ≤ R.locals) (hK : cK dC dI k s) (hA : ∀ q, s.heap.size ≤ q → A q) (σ : cS) (H : Heap) (locs : List Loc) (ls : Array Slot) (hl : lv_has ls 3 [(0, .ref (b 0))]) (hO : cO dC dI b k A s.heap σ H locs) (hw : C_X6_areThere_b26 b k Q σ) : W p l e R s m args below meth c H locs 0 0 (MQ below (va_Qi Q (cAt dC dI A b k) A) args s 0 0 A) (F0 m 26 ls []) := by
  unfold C_X6_areThere_b26 at hw
  refine lv_iconst (v := 0) X.1 X.2.1 dX6_areThere_26 (by decide) ?_
  exact cB_X6_areThere_27 X hr hlk hR hK hA (0 : Int32) σ H locs ls (lv_sub hl [0] rfl) hO hw
def C_X6_areThere_b0 (b : Nat → Nat) (k : Nat → ClassId) (Q : Int32 → cS → Prop) (x1 : Int32) (x2 : Int32) (σ : cS) : Prop :=
 C_X1_has_w b k (fun r5 t5 => (r5 = 0 → C_X6_areThere_b26 b k Q t5) ∧ (¬ r5 = 0 → C_X4_has_w b k (fun r16 t16 => (r16 = 0 → C_X6_areThere_b26 b k Q t16) ∧ (¬ r16 = 0 → C_X6_areThere_b27 b k Q (1 : Int32) t16)) x2 t5)) x1 σ
set_option maxHeartbeats 4000000 in
set_option maxRecDepth 100000 in
theorem cB_X6_areThere_0 {Q : Int32 → cS → Prop} (X : CallFix p m c cX6_areThere 3 s args wsX6_areThere RX6) (hr : meth.sig.returnType = (some .boolean)) (hlk : meth.locks = false) (hR : 1 ≤ R.frames ∧ 21 ≤ R.locals) (hK : cK dC dI k s) (hA : ∀ q, s.heap.size ≤ q → A q) (x1 : Int32) (x2 : Int32) (σ : cS) (H : Heap) (locs : List Loc) (ls : Array Slot) (hl : lv_has ls 3 [(0, .ref (b 0)), (1, .int x1), (2, .int x2)]) (hO : cO dC dI b k A s.heap σ H locs) (hw : C_X6_areThere_b0 b k Q x1 x2 σ) : W p l e R s m args below meth c H locs 0 0 (MQ below (va_Qi Q (cAt dC dI A b k) A) args s 0 0 A) (F0 m 0 ls []) := by
  unfold C_X6_areThere_b0 at hw
  refine lv_aload_n X.1 X.2.1 dX6_areThere_0 rfl (lv_at hl 0 rfl) ?_
  refine cf_X6_knownClasses X fX6_X6_knownClasses hK hO dX6_areThere_1 ?_
  refine lv_iload_n X.1 X.2.1 dX6_areThere_4 rfl (lv_at hl 1 rfl) ?_
  refine c_calli (rest := []) (As := [.int x1]) X (cC_X1_has l dC dI b k σ H.size x1 _ hw) (cwV 1 X.2.2.2.2 gX6_X1_has rfl rfl rfl hdX1_has ⟨Nat.le_trans (show 0 + 1 ≤ 1 by decide) hR.1, Nat.le_trans (show 8 + (2 + 11) + 0 ≤ 21 by decide) hR.2⟩) (cRecv_X1 hK hO) hK hA hO rfl hl.1 rfl (Nat.le_of_ble_eq_true rfl) dX6_areThere_5 (Nat.zero_le _) (Nat.zero_le _) (fun r5 t5 H locs hO hw => ?_)
  refine lv_if_eq (tgt := 26) X.1 X.2.1 dX6_areThere_8 rfl (fun hc9 => ?_) (fun hc9 => ?_)
  · have hw := hw.1 hc9
    exact cB_X6_areThere_26 X hr hlk hR hK hA t5 H locs ls (lv_sub hl [0] rfl) hO hw
  · have hw := hw.2 hc9
    refine lv_aload_n X.1 X.2.1 dX6_areThere_11 rfl (lv_at hl 0 rfl) ?_
    refine cf_X6_knownTexts X fX6_X6_knownTexts hK hO dX6_areThere_12 ?_
    refine lv_iload_n X.1 X.2.1 dX6_areThere_15 rfl (lv_at hl 2 rfl) ?_
    refine c_calli (rest := []) (As := [.int x2]) X (cC_X4_has l dC dI b k t5 H.size x2 _ hw) (cwV 1 X.2.2.2.2 gX6_X4_has rfl rfl rfl hdX4_has ⟨Nat.le_trans (show 0 + 1 ≤ 1 by decide) hR.1, Nat.le_trans (show 8 + (2 + 11) + 0 ≤ 21 by decide) hR.2⟩) (cRecv_X4 hK hO) hK hA hO rfl hl.1 rfl (Nat.le_of_ble_eq_true rfl) dX6_areThere_16 (Nat.zero_le _) (Nat.zero_le _) (fun r16 t16 H locs hO hw => ?_)
    refine lv_if_eq (tgt := 26) X.1 X.2.1 dX6_areThere_19 rfl (fun hc9 => ?_) (fun hc9 => ?_)
    · have hw := hw.1 hc9
      exact cB_X6_areThere_26 X hr hlk hR hK hA t16 H locs ls (lv_sub hl [0] rfl) hO hw
    · have hw := hw.2 hc9
      refine lv_iconst (v := 1) X.1 X.2.1 dX6_areThere_22 (by decide) ?_
      refine lv_goto (tgt := 27) X.1 X.2.1 dX6_areThere_23 rfl ?_
      exact cB_X6_areThere_27 X hr hlk hR hK hA (1 : Int32) t16 H locs ls (lv_sub hl [0] rfl) hO hw
def C_X6_areThere_w (b : Nat → Nat) (k : Nat → ClassId) (Q : Int32 → cS → Prop) (x1 : Int32) (x2 : Int32) (σ : cS) : Prop := C_X6_areThere_b0 b k Q x1 x2 σ
abbrev rmX6_areThere : Room := { frames := 1, cells := 0, slots := 0, locals := 21 }
set_option maxHeartbeats 4000000 in
set_option maxRecDepth 100000 in
theorem cC_X6_areThere (l : Launch) (dC : Nat → ClassId) (dI : Nat → Nat → Nat) (b : Nat → Nat) (k : Nat → ClassId) (σ : cS) (sz : Nat) (x1 : Int32) (x2 : Int32) (Q : Int32 → cS → Prop) (hw : C_X6_areThere_w b k Q x1 x2 σ) : Met l yX6_areThere wsX6_areThere rmX6_areThere (cPc dC dI b k sz σ [.ref (b 0), .int x1, .int x2]) (va_Qi Q (cAt dC dI (va_A (cCells b k σ) sz) b k) (va_A (cCells b k σ) sz)) 0 0 (va_A (cCells b k σ) sz) := by
  refine Met.ofW (cc := cX6_areThere) (maxL := 3) (ret := (some .boolean)) (by decide) rfl ?_
  intro p e s m args below meth c s₁ B hml hv
  obtain ⟨hargs, hsz, hP, hK, hD0⟩ := hv
  have hts := atoms_spec (ws := wsX6_areThere) B.pre
  have hown : s.vm.findClass RX6 = some m.cls := findClass_of_methodNamed B.named
  subst hsz
  subst hargs
  have hD := hD0.self (sz := s.heap.size)
  generalize hAe : va_A (cCells b k σ) s.heap.size = A at hD ⊢
  have hA : ∀ q : Nat, s.heap.size ≤ q → A q := fun q h => by rw [← hAe]; exact Or.inr h
  have hl := lv_entry ([.ref (b 0), .int x1, .int x2]) (n := 3) (Nat.le_of_ble_eq_true rfl)
  rw [lg_entry_eq]
  generalize (lg_sl ([.ref (b 0), .int x1, .int x2]) ++ List.replicate (3 - (lg_sl ([.ref (b 0), .int x1, .int x2])).length) Slot.unset).toArray = ls at hl ⊢
  have hl : lv_has ls 3 [(0, .ref (b 0)), (1, .int x1), (2, .int x2)] := hl
  unfold C_X6_areThere_w at hw
  exact cB_X6_areThere_0 ⟨B.exec, B.bytes, hml, hown, hts⟩ B.returns B.notSynchronized ⟨Nat.le_of_ble_eq_true rfl, Nat.le_of_ble_eq_true rfl⟩ hK hA x1 x2 σ s.heap [] ls (lv_sub hl [0, 1, 2] rfl) ⟨hP, hD, va_S.rf⟩ hw
def C_X6_subtype_b27 (b : Nat → Nat) (k : Nat → ClassId) (Q : Int32 → cS → Prop) (y0 : Int32) (σ : cS) : Prop :=
 zb y0 ∧ Q y0 σ
set_option maxHeartbeats 4000000 in
set_option maxRecDepth 100000 in
theorem cB_X6_subtype_27 {Q : Int32 → cS → Prop} (X : CallFix p m c cX6_subtype 3 s args wsX6_subtype RX6) (hr : meth.sig.returnType = (some .boolean)) (hlk : meth.locks = false) (hR : 2 ≤ R.frames ∧ 49 ≤ R.locals) (hK : cK dC dI k s) (hA : ∀ q, s.heap.size ≤ q → A q) (y0 : Int32) (σ : cS) (H : Heap) (locs : List Loc) (ls : Array Slot) (hl : lv_has ls 3 [(0, .ref (b 0))]) (hO : cO dC dI b k A s.heap σ H locs) (hw : C_X6_subtype_b27 b k Q y0 σ) : W p l e R s m args below meth c H locs 0 0 (MQ below (va_Qi Q (cAt dC dI A b k) A) args s 0 0 A) (F0 m 27 ls [.int y0]) := by
  unfold C_X6_subtype_b27 at hw
  obtain ⟨hz, hw⟩ := hw
  exact W.zret (v := y0) X.1 X.2.1 hr hz (fun t ht hW => ⟨⟨y0, σ, rfl, hw, cO_end hO hK ht hW⟩, hO.2.2.F ht⟩) hO.2.2.2.2 dX6_subtype_27 hlk
def C_X6_subtype_b26 (b : Nat → Nat) (k : Nat → ClassId) (Q : Int32 → cS → Prop) (σ : cS) : Prop :=
 C_X6_subtype_b27 b k Q (0 : Int32) σ
set_option maxHeartbeats 4000000 in
set_option maxRecDepth 100000 in
theorem cB_X6_subtype_26 {Q : Int32 → cS → Prop} (X : CallFix p m c cX6_subtype 3 s args wsX6_subtype RX6) (hr : meth.sig.returnType = (some .boolean)) (hlk : meth.locks = false) (hR : 2 ≤ R.frames ∧ 49 ≤ R.locals) (hK : cK dC dI k s) (hA : ∀ q, s.heap.size ≤ q → A q) (σ : cS) (H : Heap) (locs : List Loc) (ls : Array Slot) (hl : lv_has ls 3 [(0, .ref (b 0))]) (hO : cO dC dI b k A s.heap σ H locs) (hw : C_X6_subtype_b26 b k Q σ) : W p l e R s m args below meth c H locs 0 0 (MQ below (va_Qi Q (cAt dC dI A b k) A) args s 0 0 A) (F0 m 26 ls []) := by
  unfold C_X6_subtype_b26 at hw
  refine lv_iconst (v := 0) X.1 X.2.1 dX6_subtype_26 (by decide) ?_
  exact cB_X6_subtype_27 X hr hlk hR hK hA (0 : Int32) σ H locs ls (lv_sub hl [0] rfl) hO hw
def C_X6_subtype_b0 (b : Nat → Nat) (k : Nat → ClassId) (Q : Int32 → cS → Prop) (x1 : Int32) (x2 : Int32) (σ : cS) : Prop :=
 C_X6_areThere_w b k (fun r3 t3 => (r3 = 0 → C_X6_subtype_b26 b k Q t3) ∧ (¬ r3 = 0 → C_X1_leadsTo_w b k (fun r16 t16 => (r16 = 0 → C_X6_subtype_b26 b k Q t16) ∧ (¬ r16 = 0 → C_X6_subtype_b27 b k Q (1 : Int32) t16)) x1 x2 (0 : Int32) t3)) x1 x2 σ
set_option maxHeartbeats 4000000 in
set_option maxRecDepth 100000 in
theorem cB_X6_subtype_0 {Q : Int32 → cS → Prop} (X : CallFix p m c cX6_subtype 3 s args wsX6_subtype RX6) (hr : meth.sig.returnType = (some .boolean)) (hlk : meth.locks = false) (hR : 2 ≤ R.frames ∧ 49 ≤ R.locals) (hK : cK dC dI k s) (hA : ∀ q, s.heap.size ≤ q → A q) (x1 : Int32) (x2 : Int32) (σ : cS) (H : Heap) (locs : List Loc) (ls : Array Slot) (hl : lv_has ls 3 [(0, .ref (b 0)), (1, .int x1), (2, .int x2)]) (hO : cO dC dI b k A s.heap σ H locs) (hw : C_X6_subtype_b0 b k Q x1 x2 σ) : W p l e R s m args below meth c H locs 0 0 (MQ below (va_Qi Q (cAt dC dI A b k) A) args s 0 0 A) (F0 m 0 ls []) := by
  unfold C_X6_subtype_b0 at hw
  refine lv_aload_n X.1 X.2.1 dX6_subtype_0 rfl (lv_at hl 0 rfl) ?_
  refine lv_iload_n X.1 X.2.1 dX6_subtype_1 rfl (lv_at hl 1 rfl) ?_
  refine lv_iload_n X.1 X.2.1 dX6_subtype_2 rfl (lv_at hl 2 rfl) ?_
  refine c_calli (rest := []) (As := [.int x1, .int x2]) X (cC_X6_areThere l dC dI b k σ H.size x1 x2 _ hw) (cwV 2 X.2.2.2.2 gX6_X6_areThere rfl rfl rfl hdX6_areThere ⟨Nat.le_trans (show 1 + 1 ≤ 2 by decide) hR.1, Nat.le_trans (show 8 + (3 + 11) + 21 ≤ 49 by decide) hR.2⟩) (cRecv_X6 hK hO) hK hA hO rfl hl.1 rfl (Nat.le_of_ble_eq_true rfl) dX6_subtype_3 (Nat.zero_le _) (Nat.zero_le _) (fun r3 t3 H locs hO hw => ?_)
  refine lv_if_eq (tgt := 26) X.1 X.2.1 dX6_subtype_6 rfl (fun hc9 => ?_) (fun hc9 => ?_)
  · have hw := hw.1 hc9
    exact cB_X6_subtype_26 X hr hlk hR hK hA t3 H locs ls (lv_sub hl [0] rfl) hO hw
  · have hw := hw.2 hc9
    refine lv_aload_n X.1 X.2.1 dX6_subtype_9 rfl (lv_at hl 0 rfl) ?_
    refine cf_X6_knownClasses X fX6_X6_knownClasses hK hO dX6_subtype_10 ?_
    refine lv_iload_n X.1 X.2.1 dX6_subtype_13 rfl (lv_at hl 1 rfl) ?_
    refine lv_iload_n X.1 X.2.1 dX6_subtype_14 rfl (lv_at hl 2 rfl) ?_
    refine lv_iconst (v := 0) X.1 X.2.1 dX6_subtype_15 (by decide) ?_
    refine c_calli (rest := []) (As := [.int x1, .int x2, .int (0 : Int32)]) X (cC_X1_leadsTo l dC dI b k t3 H.size x1 x2 (0 : Int32) _ hw) (cwV 3 X.2.2.2.2 gX6_X1_leadsTo rfl rfl rfl hdX1_leadsTo ⟨Nat.le_trans (show 1 + 1 ≤ 2 by decide) hR.1, Nat.le_trans (show 8 + (9 + 11) + 21 ≤ 49 by decide) hR.2⟩) (cRecv_X1 hK hO) hK hA hO rfl hl.1 rfl (Nat.le_of_ble_eq_true rfl) dX6_subtype_16 (Nat.zero_le _) (Nat.zero_le _) (fun r16 t16 H locs hO hw => ?_)
    refine lv_if_eq (tgt := 26) X.1 X.2.1 dX6_subtype_19 rfl (fun hc9 => ?_) (fun hc9 => ?_)
    · have hw := hw.1 hc9
      exact cB_X6_subtype_26 X hr hlk hR hK hA t16 H locs ls (lv_sub hl [0] rfl) hO hw
    · have hw := hw.2 hc9
      refine lv_iconst (v := 1) X.1 X.2.1 dX6_subtype_22 (by decide) ?_
      refine lv_goto (tgt := 27) X.1 X.2.1 dX6_subtype_23 rfl ?_
      exact cB_X6_subtype_27 X hr hlk hR hK hA (1 : Int32) t16 H locs ls (lv_sub hl [0] rfl) hO hw
def C_X6_subtype_w (b : Nat → Nat) (k : Nat → ClassId) (Q : Int32 → cS → Prop) (x1 : Int32) (x2 : Int32) (σ : cS) : Prop := C_X6_subtype_b0 b k Q x1 x2 σ
abbrev rmX6_subtype : Room := { frames := 2, cells := 0, slots := 0, locals := 49 }
set_option maxHeartbeats 4000000 in
set_option maxRecDepth 100000 in
theorem cC_X6_subtype (l : Launch) (dC : Nat → ClassId) (dI : Nat → Nat → Nat) (b : Nat → Nat) (k : Nat → ClassId) (σ : cS) (sz : Nat) (x1 : Int32) (x2 : Int32) (Q : Int32 → cS → Prop) (hw : C_X6_subtype_w b k Q x1 x2 σ) : Met l yX6_subtype wsX6_subtype rmX6_subtype (cPc dC dI b k sz σ [.ref (b 0), .int x1, .int x2]) (va_Qi Q (cAt dC dI (va_A (cCells b k σ) sz) b k) (va_A (cCells b k σ) sz)) 0 0 (va_A (cCells b k σ) sz) := by
  refine Met.ofW (cc := cX6_subtype) (maxL := 3) (ret := (some .boolean)) (by decide) rfl ?_
  intro p e s m args below meth c s₁ B hml hv
  obtain ⟨hargs, hsz, hP, hK, hD0⟩ := hv
  have hts := atoms_spec (ws := wsX6_subtype) B.pre
  have hown : s.vm.findClass RX6 = some m.cls := findClass_of_methodNamed B.named
  subst hsz
  subst hargs
  have hD := hD0.self (sz := s.heap.size)
  generalize hAe : va_A (cCells b k σ) s.heap.size = A at hD ⊢
  have hA : ∀ q : Nat, s.heap.size ≤ q → A q := fun q h => by rw [← hAe]; exact Or.inr h
  have hl := lv_entry ([.ref (b 0), .int x1, .int x2]) (n := 3) (Nat.le_of_ble_eq_true rfl)
  rw [lg_entry_eq]
  generalize (lg_sl ([.ref (b 0), .int x1, .int x2]) ++ List.replicate (3 - (lg_sl ([.ref (b 0), .int x1, .int x2])).length) Slot.unset).toArray = ls at hl ⊢
  have hl : lv_has ls 3 [(0, .ref (b 0)), (1, .int x1), (2, .int x2)] := hl
  unfold C_X6_subtype_w at hw
  exact cB_X6_subtype_0 ⟨B.exec, B.bytes, hml, hown, hts⟩ B.returns B.notSynchronized ⟨Nat.le_of_ble_eq_true rfl, Nat.le_of_ble_eq_true rfl⟩ hK hA x1 x2 σ s.heap [] ls (lv_sub hl [0, 1, 2] rfl) ⟨hP, hD, va_S.rf⟩ hw
def C_X6_subtypeAt_b15 (b : Nat → Nat) (k : Nat → ClassId) (Q : Int32 → cS → Prop) (σ : cS) : Prop :=
 Q (-1 : Int32) σ
set_option maxHeartbeats 4000000 in
set_option maxRecDepth 100000 in
theorem cB_X6_subtypeAt_15 {Q : Int32 → cS → Prop} (X : CallFix p m c cX6_subtypeAt 5 s args wsX6_subtypeAt RX6) (hr : meth.sig.returnType = (some .int)) (hlk : meth.locks = false) (hR : 2 ≤ R.frames ∧ 49 ≤ R.locals) (hK : cK dC dI k s) (hA : ∀ q, s.heap.size ≤ q → A q) (σ : cS) (H : Heap) (locs : List Loc) (ls : Array Slot) (hl : lv_has ls 5 [(0, .ref (b 0))]) (hO : cO dC dI b k A s.heap σ H locs) (hw : C_X6_subtypeAt_b15 b k Q σ) : W p l e R s m args below meth c H locs 0 0 (MQ below (va_Qi Q (cAt dC dI A b k) A) args s 0 0 A) (F0 m 15 ls []) := by
  unfold C_X6_subtypeAt_b15 at hw
  refine lv_iconst (v := -1) X.1 X.2.1 dX6_subtypeAt_15 (by decide) ?_
  exact W.iret (v := (-1 : Int32)) X.1 X.2.1 hr (fun t ht hW => ⟨⟨(-1 : Int32), σ, rfl, hw, cO_end hO hK ht hW⟩, hO.2.2.F ht⟩) hO.2.2.2.2 dX6_subtypeAt_16 hlk
def C_X6_subtypeAt_b59 (b : Nat → Nat) (k : Nat → ClassId) (Q : Int32 → cS → Prop) (K22 : Int32 → Int32 → Int32 → Int32 → cS → Prop) (x1 : Int32) (x2 : Int32) (x3 : Int32) (x4 : Int32) (σ : cS) : Prop :=
 ∀ v59 : Int32, v59 = x4 + (1 : Int32) → K22 x1 x2 x3 v59 σ
set_option maxHeartbeats 4000000 in
set_option maxRecDepth 100000 in
theorem cB_X6_subtypeAt_59 {Q : Int32 → cS → Prop} {K22 : Int32 → Int32 → Int32 → Int32 → cS → Prop} (X : CallFix p m c cX6_subtypeAt 5 s args wsX6_subtypeAt RX6) (hr : meth.sig.returnType = (some .int)) (hlk : meth.locks = false) (hR : 2 ≤ R.frames ∧ 49 ≤ R.locals) (hK : cK dC dI k s) (hA : ∀ q, s.heap.size ≤ q → A q) (k22 : ∀ (x1 : Int32) (x2 : Int32) (x3 : Int32) (x4 : Int32) (σ : cS) (H : Heap) (locs : List Loc) (ls : Array Slot), lv_has ls 5 [(0, .ref (b 0)), (1, .int x1), (2, .int x2), (3, .int x3), (4, .int x4)] → cO dC dI b k A s.heap σ H locs → K22 x1 x2 x3 x4 σ → W p l e R s m args below meth c H locs 0 0 (MQ below (va_Qi Q (cAt dC dI A b k) A) args s 0 0 A) (F0 m 22 ls [])) (x1 : Int32) (x2 : Int32) (x3 : Int32) (x4 : Int32) (σ : cS) (H : Heap) (locs : List Loc) (ls : Array Slot) (hl : lv_has ls 5 [(0, .ref (b 0)), (1, .int x1), (2, .int x2), (3, .int x3), (4, .int x4)]) (hO : cO dC dI b k A s.heap σ H locs) (hw : C_X6_subtypeAt_b59 b k Q K22 x1 x2 x3 x4 σ) : W p l e R s m args below meth c H locs 0 0 (MQ below (va_Qi Q (cAt dC dI A b k) A) args s 0 0 A) (F0 m 59 ls []) := by
  unfold C_X6_subtypeAt_b59 at hw
  obtain ⟨v59, e59⟩ : ∃ z, z = x4 + (1 : Int32) := ⟨_, rfl⟩
  have hw := hw v59 e59
  refine lv_iinc (lv' := [(4, .int v59), (0, .ref (b 0)), (1, .int x1), (2, .int x2), (3, .int x3)]) (k := 4) (v := v59) X.1 X.2.1 dX6_subtypeAt_59 hl rfl (by rw [e59]; rfl) (by decide) rfl (fun ls hl => ?_)
  refine lv_goto (tgt := 22) X.1 X.2.1 dX6_subtypeAt_62 rfl ?_
  exact k22 x1 x2 x3 v59 σ H locs ls (lv_sub hl [1, 2, 3, 4, 0] rfl) hO hw
def C_X6_subtypeAt_b22_s (b : Nat → Nat) (k : Nat → ClassId) (Q : Int32 → cS → Prop) (K22 : Int32 → Int32 → Int32 → Int32 → cS → Prop) (x1 : Int32) (x2 : Int32) (x3 : Int32) (x4 : Int32) (σ : cS) : Prop :=
 ((σ.1 2) ≤ x4 → Q (-1 : Int32) σ) ∧ (¬ (σ.1 2) ≤ x4 → C_X1_leadsTo_w b k (fun r42 t42 => (r42 = 0 → C_X6_subtypeAt_b59 b k Q K22 x1 x2 x3 x4 t42) ∧ (¬ r42 = 0 → (¬ x3 = x2 → ∀ v56 : Int32, v56 = x3 + (1 : Int32) → C_X6_subtypeAt_b59 b k Q K22 x1 x2 v56 x4 t42) ∧ (x3 = x2 → Q x4 t42))) x4 x1 (0 : Int32) σ)
def C_X6_subtypeAt_b22_f (b : Nat → Nat) (k : Nat → ClassId) (Q : Int32 → cS → Prop) : (Int32 × Int32 × Int32 × Int32 × cS → Prop) → Int32 × Int32 × Int32 × Int32 × cS → Prop :=
 fun K z => C_X6_subtypeAt_b22_s b k Q (fun x1 x2 x3 x4 σ => K (x1, x2, x3, x4, σ)) z.1 z.2.1 z.2.2.1 z.2.2.2.1 z.2.2.2.2
def C_X6_subtypeAt_b22 (b : Nat → Nat) (k : Nat → ClassId) (Q : Int32 → cS → Prop) (x1 : Int32) (x2 : Int32) (x3 : Int32) (x4 : Int32) (σ : cS) : Prop := ∃ n, fx (C_X6_subtypeAt_b22_f b k Q ) n (x1, x2, x3, x4, σ)
set_option maxHeartbeats 4000000 in
set_option maxRecDepth 100000 in
theorem cB_X6_subtypeAt_22 {Q : Int32 → cS → Prop} (X : CallFix p m c cX6_subtypeAt 5 s args wsX6_subtypeAt RX6) (hr : meth.sig.returnType = (some .int)) (hlk : meth.locks = false) (hR : 2 ≤ R.frames ∧ 49 ≤ R.locals) (hK : cK dC dI k s) (hA : ∀ q, s.heap.size ≤ q → A q) : ∀ (n : Nat) (x1 : Int32) (x2 : Int32) (x3 : Int32) (x4 : Int32) (σ : cS) (H : Heap) (locs : List Loc) (ls : Array Slot), lv_has ls 5 [(0, .ref (b 0)), (1, .int x1), (2, .int x2), (3, .int x3), (4, .int x4)] → cO dC dI b k A s.heap σ H locs → fx (C_X6_subtypeAt_b22_f b k Q ) n (x1, x2, x3, x4, σ) → W p l e R s m args below meth c H locs 0 0 (MQ below (va_Qi Q (cAt dC dI A b k) A) args s 0 0 A) (F0 m 22 ls []) := by
  intro n
  induction n with
  | zero => intro x1 x2 x3 x4 σ H locs ls hl hO hw; exact False.elim hw
  | succ n k22 =>
    intro x1 x2 x3 x4 σ H locs ls hl hO hw
    have hw : C_X6_subtypeAt_b22_s b k Q (fun x1 x2 x3 x4 σ => fx (C_X6_subtypeAt_b22_f b k Q ) n (x1, x2, x3, x4, σ)) x1 x2 x3 x4 σ := hw
    unfold C_X6_subtypeAt_b22_s at hw
    refine lv_iload X.1 X.2.1 dX6_subtypeAt_22 (lv_at hl 4 rfl) ?_
    refine lv_aload_n X.1 X.2.1 dX6_subtypeAt_24 rfl (lv_at hl 0 rfl) ?_
    refine cf_X6_knownClasses X fX6_X6_knownClasses hK hO dX6_subtypeAt_25 ?_
    refine cf_X1_size X fX6_X1_size hK hO dX6_subtypeAt_28 ?_
    refine lv_icmp_ge (tgt := 65) X.1 X.2.1 dX6_subtypeAt_31 rfl (fun hc9 => ?_) (fun hc9 => ?_)
    · have hw := hw.1 hc9
      refine lv_iconst (v := -1) X.1 X.2.1 dX6_subtypeAt_65 (by decide) ?_
      exact W.iret (v := (-1 : Int32)) X.1 X.2.1 hr (fun t ht hW => ⟨⟨(-1 : Int32), σ, rfl, hw, cO_end hO hK ht hW⟩, hO.2.2.F ht⟩) hO.2.2.2.2 dX6_subtypeAt_66 hlk
    · have hw := hw.2 hc9
      refine lv_aload_n X.1 X.2.1 dX6_subtypeAt_34 rfl (lv_at hl 0 rfl) ?_
      refine cf_X6_knownClasses X fX6_X6_knownClasses hK hO dX6_subtypeAt_35 ?_
      refine lv_iload X.1 X.2.1 dX6_subtypeAt_38 (lv_at hl 4 rfl) ?_
      refine lv_iload_n X.1 X.2.1 dX6_subtypeAt_40 rfl (lv_at hl 1 rfl) ?_
      refine lv_iconst (v := 0) X.1 X.2.1 dX6_subtypeAt_41 (by decide) ?_
      refine c_calli (rest := []) (As := [.int x4, .int x1, .int (0 : Int32)]) X (cC_X1_leadsTo l dC dI b k σ H.size x4 x1 (0 : Int32) _ hw) (cwV 3 X.2.2.2.2 gX6_X1_leadsTo rfl rfl rfl hdX1_leadsTo ⟨Nat.le_trans (show 1 + 1 ≤ 2 by decide) hR.1, Nat.le_trans (show 8 + (9 + 11) + 21 ≤ 49 by decide) hR.2⟩) (cRecv_X1 hK hO) hK hA hO rfl hl.1 rfl (Nat.le_of_ble_eq_true rfl) dX6_subtypeAt_42 (Nat.zero_le _) (Nat.zero_le _) (fun r42 t42 H locs hO hw => ?_)
      refine lv_if_eq (tgt := 59) X.1 X.2.1 dX6_subtypeAt_45 rfl (fun hc9 => ?_) (fun hc9 => ?_)
      · have hw := hw.1 hc9
        exact cB_X6_subtypeAt_59 X hr hlk hR hK hA k22 x1 x2 x3 x4 t42 H locs ls (lv_sub hl [0, 1, 2, 3, 4] rfl) hO hw
      · have hw := hw.2 hc9
        refine lv_iload_n X.1 X.2.1 dX6_subtypeAt_48 rfl (lv_at hl 3 rfl) ?_
        refine lv_iload_n X.1 X.2.1 dX6_subtypeAt_49 rfl (lv_at hl 2 rfl) ?_
        refine lv_icmp_ne (tgt := 56) X.1 X.2.1 dX6_subtypeAt_50 rfl (fun hc9 => ?_) (fun hc9 => ?_)
        · have hw := hw.1 hc9
          obtain ⟨v56, e56⟩ : ∃ z, z = x3 + (1 : Int32) := ⟨_, rfl⟩
          have hw := hw v56 e56
          refine lv_iinc (lv' := [(3, .int v56), (0, .ref (b 0)), (1, .int x1), (2, .int x2), (4, .int x4)]) (k := 3) (v := v56) X.1 X.2.1 dX6_subtypeAt_56 hl rfl (by rw [e56]; rfl) (by decide) rfl (fun ls hl => ?_)
          exact cB_X6_subtypeAt_59 X hr hlk hR hK hA k22 x1 x2 v56 x4 t42 H locs ls (lv_sub hl [1, 2, 3, 0, 4] rfl) hO hw
        · have hw := hw.2 hc9
          refine lv_iload X.1 X.2.1 dX6_subtypeAt_53 (lv_at hl 4 rfl) ?_
          exact W.iret (v := x4) X.1 X.2.1 hr (fun t ht hW => ⟨⟨x4, t42, rfl, hw, cO_end hO hK ht hW⟩, hO.2.2.F ht⟩) hO.2.2.2.2 dX6_subtypeAt_55 hlk
def C_X6_subtypeAt_b0 (b : Nat → Nat) (k : Nat → ClassId) (Q : Int32 → cS → Prop) (x1 : Int32) (x2 : Int32) (σ : cS) : Prop :=
 (x2 < 0 → C_X6_subtypeAt_b15 b k Q σ) ∧ (¬ x2 < 0 → C_X4_has_w b k (fun r9 t9 => (¬ r9 = 0 → C_X6_subtypeAt_b22 b k Q x1 x2 (0 : Int32) (0 : Int32) t9) ∧ (r9 = 0 → C_X6_subtypeAt_b15 b k Q t9)) x1 σ)
set_option maxHeartbeats 4000000 in
set_option maxRecDepth 100000 in
theorem cB_X6_subtypeAt_0 {Q : Int32 → cS → Prop} (X : CallFix p m c cX6_subtypeAt 5 s args wsX6_subtypeAt RX6) (hr : meth.sig.returnType = (some .int)) (hlk : meth.locks = false) (hR : 2 ≤ R.frames ∧ 49 ≤ R.locals) (hK : cK dC dI k s) (hA : ∀ q, s.heap.size ≤ q → A q) (x1 : Int32) (x2 : Int32) (σ : cS) (H : Heap) (locs : List Loc) (ls : Array Slot) (hl : lv_has ls 5 [(0, .ref (b 0)), (1, .int x1), (2, .int x2)]) (hO : cO dC dI b k A s.heap σ H locs) (hw : C_X6_subtypeAt_b0 b k Q x1 x2 σ) : W p l e R s m args below meth c H locs 0 0 (MQ below (va_Qi Q (cAt dC dI A b k) A) args s 0 0 A) (F0 m 0 ls []) := by
  unfold C_X6_subtypeAt_b0 at hw
  refine lv_iload_n X.1 X.2.1 dX6_subtypeAt_0 rfl (lv_at hl 2 rfl) ?_
  refine lv_if_lt (tgt := 15) X.1 X.2.1 dX6_subtypeAt_1 rfl (fun hc9 => ?_) (fun hc9 => ?_)
  · have hw := hw.1 hc9
    exact cB_X6_subtypeAt_15 X hr hlk hR hK hA σ H locs ls (lv_sub hl [0] rfl) hO hw
  · have hw := hw.2 hc9
    refine lv_aload_n X.1 X.2.1 dX6_subtypeAt_4 rfl (lv_at hl 0 rfl) ?_
    refine cf_X6_knownTexts X fX6_X6_knownTexts hK hO dX6_subtypeAt_5 ?_
    refine lv_iload_n X.1 X.2.1 dX6_subtypeAt_8 rfl (lv_at hl 1 rfl) ?_
    refine c_calli (rest := []) (As := [.int x1]) X (cC_X4_has l dC dI b k σ H.size x1 _ hw) (cwV 1 X.2.2.2.2 gX6_X4_has rfl rfl rfl hdX4_has ⟨Nat.le_trans (show 0 + 1 ≤ 2 by decide) hR.1, Nat.le_trans (show 8 + (2 + 11) + 0 ≤ 49 by decide) hR.2⟩) (cRecv_X4 hK hO) hK hA hO rfl hl.1 rfl (Nat.le_of_ble_eq_true rfl) dX6_subtypeAt_9 (Nat.zero_le _) (Nat.zero_le _) (fun r9 t9 H locs hO hw => ?_)
    refine lv_if_ne (tgt := 17) X.1 X.2.1 dX6_subtypeAt_12 rfl (fun hc9 => ?_) (fun hc9 => ?_)
    · have hw := hw.1 hc9
      refine lv_iconst (v := 0) X.1 X.2.1 dX6_subtypeAt_17 (by decide) ?_
      refine lv_istore_n (lv' := [(3, .int (0 : Int32)), (0, .ref (b 0)), (1, .int x1), (2, .int x2)]) X.1 X.2.1 dX6_subtypeAt_18 rfl hl (by decide) rfl (fun ls hl => ?_)
      refine lv_iconst (v := 0) X.1 X.2.1 dX6_subtypeAt_19 (by decide) ?_
      refine lv_istore (lv' := [(4, .int (0 : Int32)), (3, .int (0 : Int32)), (0, .ref (b 0)), (1, .int x1), (2, .int x2)]) X.1 X.2.1 dX6_subtypeAt_20 hl (by decide) rfl (fun ls hl => ?_)
      obtain ⟨n, hw⟩ := hw
      exact cB_X6_subtypeAt_22 X hr hlk hR hK hA n x1 x2 (0 : Int32) (0 : Int32) t9 H locs ls (lv_sub hl [2, 3, 4, 1, 0] rfl) hO hw
    · have hw := hw.2 hc9
      exact cB_X6_subtypeAt_15 X hr hlk hR hK hA t9 H locs ls (lv_sub hl [0] rfl) hO hw
def C_X6_subtypeAt_w (b : Nat → Nat) (k : Nat → ClassId) (Q : Int32 → cS → Prop) (x1 : Int32) (x2 : Int32) (σ : cS) : Prop := C_X6_subtypeAt_b0 b k Q x1 x2 σ
abbrev rmX6_subtypeAt : Room := { frames := 2, cells := 0, slots := 0, locals := 49 }
set_option maxHeartbeats 4000000 in
set_option maxRecDepth 100000 in
theorem cC_X6_subtypeAt (l : Launch) (dC : Nat → ClassId) (dI : Nat → Nat → Nat) (b : Nat → Nat) (k : Nat → ClassId) (σ : cS) (sz : Nat) (x1 : Int32) (x2 : Int32) (Q : Int32 → cS → Prop) (hw : C_X6_subtypeAt_w b k Q x1 x2 σ) : Met l yX6_subtypeAt wsX6_subtypeAt rmX6_subtypeAt (cPc dC dI b k sz σ [.ref (b 0), .int x1, .int x2]) (va_Qi Q (cAt dC dI (va_A (cCells b k σ) sz) b k) (va_A (cCells b k σ) sz)) 0 0 (va_A (cCells b k σ) sz) := by
  refine Met.ofW (cc := cX6_subtypeAt) (maxL := 5) (ret := (some .int)) (by decide) rfl ?_
  intro p e s m args below meth c s₁ B hml hv
  obtain ⟨hargs, hsz, hP, hK, hD0⟩ := hv
  have hts := atoms_spec (ws := wsX6_subtypeAt) B.pre
  have hown : s.vm.findClass RX6 = some m.cls := findClass_of_methodNamed B.named
  subst hsz
  subst hargs
  have hD := hD0.self (sz := s.heap.size)
  generalize hAe : va_A (cCells b k σ) s.heap.size = A at hD ⊢
  have hA : ∀ q : Nat, s.heap.size ≤ q → A q := fun q h => by rw [← hAe]; exact Or.inr h
  have hl := lv_entry ([.ref (b 0), .int x1, .int x2]) (n := 5) (Nat.le_of_ble_eq_true rfl)
  rw [lg_entry_eq]
  generalize (lg_sl ([.ref (b 0), .int x1, .int x2]) ++ List.replicate (5 - (lg_sl ([.ref (b 0), .int x1, .int x2])).length) Slot.unset).toArray = ls at hl ⊢
  have hl : lv_has ls 5 [(0, .ref (b 0)), (1, .int x1), (2, .int x2)] := hl
  unfold C_X6_subtypeAt_w at hw
  exact cB_X6_subtypeAt_0 ⟨B.exec, B.bytes, hml, hown, hts⟩ B.returns B.notSynchronized ⟨Nat.le_of_ble_eq_true rfl, Nat.le_of_ble_eq_true rfl⟩ hK hA x1 x2 σ s.heap [] ls (lv_sub hl [0, 1, 2] rfl) ⟨hP, hD, va_S.rf⟩ hw
def C_X6_holder_b75 (b : Nat → Nat) (k : Nat → ClassId) (Q : Int32 → cS → Prop) (σ : cS) : Prop :=
 Q (-1 : Int32) σ
set_option maxHeartbeats 4000000 in
set_option maxRecDepth 100000 in
theorem cB_X6_holder_75 {Q : Int32 → cS → Prop} (X : CallFix p m c cX6_holder 6 s args wsX6_holder RX6) (hr : meth.sig.returnType = (some .int)) (hlk : meth.locks = false) (hR : 2 ≤ R.frames ∧ 44 ≤ R.locals) (hK : cK dC dI k s) (hA : ∀ q, s.heap.size ≤ q → A q) (σ : cS) (H : Heap) (locs : List Loc) (ls : Array Slot) (hl : lv_has ls 6 [(0, .ref (b 0))]) (hO : cO dC dI b k A s.heap σ H locs) (hw : C_X6_holder_b75 b k Q σ) : W p l e R s m args below meth c H locs 0 0 (MQ below (va_Qi Q (cAt dC dI A b k) A) args s 0 0 A) (F0 m 75 ls []) := by
  unfold C_X6_holder_b75 at hw
  refine lv_iconst (v := -1) X.1 X.2.1 dX6_holder_75 (by decide) ?_
  exact W.iret (v := (-1 : Int32)) X.1 X.2.1 hr (fun t ht hW => ⟨⟨(-1 : Int32), σ, rfl, hw, cO_end hO hK ht hW⟩, hO.2.2.F ht⟩) hO.2.2.2.2 dX6_holder_76 hlk
def C_X6_holder_b26_s (b : Nat → Nat) (k : Nat → ClassId) (Q : Int32 → cS → Prop) (K26 : Int32 → Int32 → Int32 → Int32 → cS → Prop) (x2 : Int32) (x3 : Int32) (x4 : Int32) (x5 : Int32) (σ : cS) : Prop :=
 (x3 ≤ x5 → C_X6_holder_b75 b k Q σ) ∧ (¬ x3 ≤ x5 → (x4 = (-1 : Int32) → C_X6_holder_b75 b k Q σ) ∧ (¬ x4 = (-1 : Int32) → vp_in x4 16 ∧ ∃ a49 : Nat, pX σ.2.2.2.2 (σ.2.2.1 x4.toNatClampNeg) 0 a49 ∧ C_X0_firstAnnotation_w b k a49 (fun r49 t49 => (r49 = none → C_X1_superclass_w b k (fun r64 t64 => ∀ v69 : Int32, v69 = x5 + (1 : Int32) → K26 x2 x3 r64 v69 t64) x4 t49) ∧ (¬ r49 = none → Q x4 t49)) x2 σ))
def C_X6_holder_b26_f (b : Nat → Nat) (k : Nat → ClassId) (Q : Int32 → cS → Prop) : (Int32 × Int32 × Int32 × Int32 × cS → Prop) → Int32 × Int32 × Int32 × Int32 × cS → Prop :=
 fun K z => C_X6_holder_b26_s b k Q (fun x2 x3 x4 x5 σ => K (x2, x3, x4, x5, σ)) z.1 z.2.1 z.2.2.1 z.2.2.2.1 z.2.2.2.2
def C_X6_holder_b26 (b : Nat → Nat) (k : Nat → ClassId) (Q : Int32 → cS → Prop) (x2 : Int32) (x3 : Int32) (x4 : Int32) (x5 : Int32) (σ : cS) : Prop := ∃ n, fx (C_X6_holder_b26_f b k Q ) n (x2, x3, x4, x5, σ)
set_option maxHeartbeats 4000000 in
set_option maxRecDepth 100000 in
theorem cB_X6_holder_26 {Q : Int32 → cS → Prop} (X : CallFix p m c cX6_holder 6 s args wsX6_holder RX6) (hr : meth.sig.returnType = (some .int)) (hlk : meth.locks = false) (hR : 2 ≤ R.frames ∧ 44 ≤ R.locals) (hK : cK dC dI k s) (hA : ∀ q, s.heap.size ≤ q → A q) : ∀ (n : Nat) (x2 : Int32) (x3 : Int32) (x4 : Int32) (x5 : Int32) (σ : cS) (H : Heap) (locs : List Loc) (ls : Array Slot), lv_has ls 6 [(0, .ref (b 0)), (2, .int x2), (3, .int x3), (4, .int x4), (5, .int x5)] → cO dC dI b k A s.heap σ H locs → fx (C_X6_holder_b26_f b k Q ) n (x2, x3, x4, x5, σ) → W p l e R s m args below meth c H locs 0 0 (MQ below (va_Qi Q (cAt dC dI A b k) A) args s 0 0 A) (F0 m 26 ls []) := by
  intro n
  induction n with
  | zero => intro x2 x3 x4 x5 σ H locs ls hl hO hw; exact False.elim hw
  | succ n k26 =>
    intro x2 x3 x4 x5 σ H locs ls hl hO hw
    have hw : C_X6_holder_b26_s b k Q (fun x2 x3 x4 x5 σ => fx (C_X6_holder_b26_f b k Q ) n (x2, x3, x4, x5, σ)) x2 x3 x4 x5 σ := hw
    unfold C_X6_holder_b26_s at hw
    refine lv_iload X.1 X.2.1 dX6_holder_26 (lv_at hl 4 rfl) ?_
    refine lv_iload_n X.1 X.2.1 dX6_holder_28 rfl (lv_at hl 2 rfl) ?_
    refine lv_icmp_ge (tgt := 75) X.1 X.2.1 dX6_holder_29 rfl (fun hc9 => ?_) (fun hc9 => ?_)
    · have hw := hw.1 hc9
      exact cB_X6_holder_75 X hr hlk hR hK hA σ H locs ls (lv_sub hl [0] rfl) hO hw
    · have hw := hw.2 hc9
      refine lv_iload X.1 X.2.1 dX6_holder_32 (lv_at hl 3 rfl) ?_
      refine lv_iconst (v := -1) X.1 X.2.1 dX6_holder_34 (by decide) ?_
      refine lv_icmp_eq (tgt := 75) X.1 X.2.1 dX6_holder_35 rfl (fun hc9 => ?_) (fun hc9 => ?_)
      · have hw := hw.1 hc9
        exact cB_X6_holder_75 X hr hlk hR hK hA σ H locs ls (lv_sub hl [0] rfl) hO hw
      · have hw := hw.2 hc9
        refine lv_aload_n X.1 X.2.1 dX6_holder_38 rfl (lv_at hl 0 rfl) ?_
        refine cf_X6_knownClasses X fX6_X6_knownClasses hK hO dX6_holder_39 ?_
        refine cf_X1_files X fX6_X1_files hK hO dX6_holder_42 ?_
        refine lv_iload X.1 X.2.1 dX6_holder_45 (lv_at hl 3 rfl) ?_
        obtain ⟨g47, hw⟩ := hw
        refine ca_6 X.1 X.2.1 hK hO g47 dX6_holder_47 ?_
        refine lv_iload_n X.1 X.2.1 dX6_holder_48 rfl (lv_at hl 1 rfl) ?_
        obtain ⟨a49, z49, hw⟩ := hw
        refine c_callqO (rest := []) (As := [.int x2]) X (cC_X0_firstAnnotation l dC dI b k σ H.size a49 x2 _ hw) (cwV 1 X.2.2.2.2 gX6_X0_firstAnnotation rfl rfl rfl hdX0_firstAnnotation ⟨Nat.le_trans (show 1 + 1 ≤ 2 by decide) hR.1, Nat.le_trans (show 8 + (3 + 11) + 21 ≤ 44 by decide) hR.2⟩) (cRecvP hK hO z49 rfl) z49.1 hK hA hO rfl hl.1 rfl (Nat.le_of_ble_eq_true rfl) dX6_holder_49 (Nat.zero_le _) (Nat.zero_le _) (fun r49 t49 H locs hO hw => ?_)
        refine lv_ifnullO (o := r49) (tgt := 58) X.1 X.2.1 dX6_holder_52 rfl (fun hc9 => ?_) (fun hc9 => ?_)
        · have hw := hw.1 hc9
          refine lv_aload_n X.1 X.2.1 dX6_holder_58 rfl (lv_at hl 0 rfl) ?_
          refine cf_X6_knownClasses X fX6_X6_knownClasses hK hO dX6_holder_59 ?_
          refine lv_iload X.1 X.2.1 dX6_holder_62 (lv_at hl 3 rfl) ?_
          refine c_calli (rest := []) (As := [.int x4]) X (cC_X1_superclass l dC dI b k t49 H.size x4 _ hw) (cwV 1 X.2.2.2.2 gX6_X1_superclass rfl rfl rfl hdX1_superclass ⟨Nat.le_trans (show 1 + 1 ≤ 2 by decide) hR.1, Nat.le_trans (show 8 + (2 + 11) + 21 ≤ 44 by decide) hR.2⟩) (cRecv_X1 hK hO) hK hA hO rfl hl.1 rfl (Nat.le_of_ble_eq_true rfl) dX6_holder_64 (Nat.zero_le _) (Nat.zero_le _) (fun r64 t64 H locs hO hw => ?_)
          refine lv_istore (lv' := [(4, .int r64), (0, .ref (b 0)), (2, .int x2), (3, .int x3), (5, .int x5)]) X.1 X.2.1 dX6_holder_67 hl (by decide) rfl (fun ls hl => ?_)
          obtain ⟨v69, e69⟩ : ∃ z, z = x5 + (1 : Int32) := ⟨_, rfl⟩
          have hw := hw v69 e69
          refine lv_iinc (lv' := [(5, .int v69), (4, .int r64), (0, .ref (b 0)), (2, .int x2), (3, .int x3)]) (k := 4) (v := v69) X.1 X.2.1 dX6_holder_69 hl rfl (by rw [e69]; rfl) (by decide) rfl (fun ls hl => ?_)
          refine lv_goto (tgt := 26) X.1 X.2.1 dX6_holder_72 rfl ?_
          exact k26 x2 x3 r64 v69 t64 H locs ls (lv_sub hl [2, 3, 4, 1, 0] rfl) hO hw
        · have hw := hw.2 hc9
          refine lv_iload X.1 X.2.1 dX6_holder_55 (lv_at hl 3 rfl) ?_
          exact W.iret (v := x4) X.1 X.2.1 hr (fun t ht hW => ⟨⟨x4, t49, rfl, hw, cO_end hO hK ht hW⟩, hO.2.2.F ht⟩) hO.2.2.2.2 dX6_holder_57 hlk
def C_X6_holder_b0 (b : Nat → Nat) (k : Nat → ClassId) (Q : Int32 → cS → Prop) (x1 : Int32) (x2 : Int32) (σ : cS) : Prop :=
 C_X6_areThere_w b k (fun r3 t3 => (¬ r3 = 0 → C_X1_chainSteps_w b k (fun r16 t16 => C_X6_holder_b26 b k Q x2 r16 x1 (0 : Int32) t16) x2 t3) ∧ (r3 = 0 → Q (-1 : Int32) t3)) x1 x2 σ
set_option maxHeartbeats 4000000 in
set_option maxRecDepth 100000 in
theorem cB_X6_holder_0 {Q : Int32 → cS → Prop} (X : CallFix p m c cX6_holder 6 s args wsX6_holder RX6) (hr : meth.sig.returnType = (some .int)) (hlk : meth.locks = false) (hR : 2 ≤ R.frames ∧ 44 ≤ R.locals) (hK : cK dC dI k s) (hA : ∀ q, s.heap.size ≤ q → A q) (x1 : Int32) (x2 : Int32) (σ : cS) (H : Heap) (locs : List Loc) (ls : Array Slot) (hl : lv_has ls 6 [(0, .ref (b 0)), (1, .int x1), (2, .int x2)]) (hO : cO dC dI b k A s.heap σ H locs) (hw : C_X6_holder_b0 b k Q x1 x2 σ) : W p l e R s m args below meth c H locs 0 0 (MQ below (va_Qi Q (cAt dC dI A b k) A) args s 0 0 A) (F0 m 0 ls []) := by
  unfold C_X6_holder_b0 at hw
  refine lv_aload_n X.1 X.2.1 dX6_holder_0 rfl (lv_at hl 0 rfl) ?_
  refine lv_iload_n X.1 X.2.1 dX6_holder_1 rfl (lv_at hl 1 rfl) ?_
  refine lv_iload_n X.1 X.2.1 dX6_holder_2 rfl (lv_at hl 2 rfl) ?_
  refine c_calli (rest := []) (As := [.int x1, .int x2]) X (cC_X6_areThere l dC dI b k σ H.size x1 x2 _ hw) (cwV 2 X.2.2.2.2 gX6_X6_areThere rfl rfl rfl hdX6_areThere ⟨Nat.le_trans (show 1 + 1 ≤ 2 by decide) hR.1, Nat.le_trans (show 8 + (3 + 11) + 21 ≤ 44 by decide) hR.2⟩) (cRecv_X6 hK hO) hK hA hO rfl hl.1 rfl (Nat.le_of_ble_eq_true rfl) dX6_holder_3 (Nat.zero_le _) (Nat.zero_le _) (fun r3 t3 H locs hO hw => ?_)
  refine lv_if_ne (tgt := 11) X.1 X.2.1 dX6_holder_6 rfl (fun hc9 => ?_) (fun hc9 => ?_)
  · have hw := hw.1 hc9
    refine lv_aload_n X.1 X.2.1 dX6_holder_11 rfl (lv_at hl 0 rfl) ?_
    refine cf_X6_knownClasses X fX6_X6_knownClasses hK hO dX6_holder_12 ?_
    refine lv_iload_n X.1 X.2.1 dX6_holder_15 rfl (lv_at hl 2 rfl) ?_
    refine c_calli (rest := []) (As := [.int x2]) X (cC_X1_chainSteps l dC dI b k t3 H.size x2 _ hw) (cwV 1 X.2.2.2.2 gX6_X1_chainSteps rfl rfl rfl hdX1_chainSteps ⟨Nat.le_trans (show 1 + 1 ≤ 2 by decide) hR.1, Nat.le_trans (show 8 + (4 + 11) + 21 ≤ 44 by decide) hR.2⟩) (cRecv_X1 hK hO) hK hA hO rfl hl.1 rfl (Nat.le_of_ble_eq_true rfl) dX6_holder_16 (Nat.zero_le _) (Nat.zero_le _) (fun r16 t16 H locs hO hw => ?_)
    refine lv_istore_n (lv' := [(3, .int r16), (0, .ref (b 0)), (1, .int x1), (2, .int x2)]) X.1 X.2.1 dX6_holder_19 rfl hl (by decide) rfl (fun ls hl => ?_)
    refine lv_iload_n X.1 X.2.1 dX6_holder_20 rfl (lv_at hl 2 rfl) ?_
    refine lv_istore (lv' := [(4, .int x1), (3, .int r16), (0, .ref (b 0)), (1, .int x1), (2, .int x2)]) X.1 X.2.1 dX6_holder_21 hl (by decide) rfl (fun ls hl => ?_)
    refine lv_iconst (v := 0) X.1 X.2.1 dX6_holder_23 (by decide) ?_
    refine lv_istore (lv' := [(5, .int (0 : Int32)), (4, .int x1), (3, .int r16), (0, .ref (b 0)), (1, .int x1), (2, .int x2)]) X.1 X.2.1 dX6_holder_24 hl (by decide) rfl (fun ls hl => ?_)
    obtain ⟨n, hw⟩ := hw
    exact cB_X6_holder_26 X hr hlk hR hK hA n x2 r16 x1 (0 : Int32) t16 H locs ls (lv_sub hl [3, 5, 2, 1, 0] rfl) hO hw
  · have hw := hw.2 hc9
    refine lv_iconst (v := -1) X.1 X.2.1 dX6_holder_9 (by decide) ?_
    exact W.iret (v := (-1 : Int32)) X.1 X.2.1 hr (fun t ht hW => ⟨⟨(-1 : Int32), t3, rfl, hw, cO_end hO hK ht hW⟩, hO.2.2.F ht⟩) hO.2.2.2.2 dX6_holder_10 hlk
def C_X6_holder_w (b : Nat → Nat) (k : Nat → ClassId) (Q : Int32 → cS → Prop) (x1 : Int32) (x2 : Int32) (σ : cS) : Prop := C_X6_holder_b0 b k Q x1 x2 σ
abbrev rmX6_holder : Room := { frames := 2, cells := 0, slots := 0, locals := 44 }
set_option maxHeartbeats 4000000 in
set_option maxRecDepth 100000 in
theorem cC_X6_holder (l : Launch) (dC : Nat → ClassId) (dI : Nat → Nat → Nat) (b : Nat → Nat) (k : Nat → ClassId) (σ : cS) (sz : Nat) (x1 : Int32) (x2 : Int32) (Q : Int32 → cS → Prop) (hw : C_X6_holder_w b k Q x1 x2 σ) : Met l yX6_holder wsX6_holder rmX6_holder (cPc dC dI b k sz σ [.ref (b 0), .int x1, .int x2]) (va_Qi Q (cAt dC dI (va_A (cCells b k σ) sz) b k) (va_A (cCells b k σ) sz)) 0 0 (va_A (cCells b k σ) sz) := by
  refine Met.ofW (cc := cX6_holder) (maxL := 6) (ret := (some .int)) (by decide) rfl ?_
  intro p e s m args below meth c s₁ B hml hv
  obtain ⟨hargs, hsz, hP, hK, hD0⟩ := hv
  have hts := atoms_spec (ws := wsX6_holder) B.pre
  have hown : s.vm.findClass RX6 = some m.cls := findClass_of_methodNamed B.named
  subst hsz
  subst hargs
  have hD := hD0.self (sz := s.heap.size)
  generalize hAe : va_A (cCells b k σ) s.heap.size = A at hD ⊢
  have hA : ∀ q : Nat, s.heap.size ≤ q → A q := fun q h => by rw [← hAe]; exact Or.inr h
  have hl := lv_entry ([.ref (b 0), .int x1, .int x2]) (n := 6) (Nat.le_of_ble_eq_true rfl)
  rw [lg_entry_eq]
  generalize (lg_sl ([.ref (b 0), .int x1, .int x2]) ++ List.replicate (6 - (lg_sl ([.ref (b 0), .int x1, .int x2])).length) Slot.unset).toArray = ls at hl ⊢
  have hl : lv_has ls 6 [(0, .ref (b 0)), (1, .int x1), (2, .int x2)] := hl
  unfold C_X6_holder_w at hw
  exact cB_X6_holder_0 ⟨B.exec, B.bytes, hml, hown, hts⟩ B.returns B.notSynchronized ⟨Nat.le_of_ble_eq_true rfl, Nat.le_of_ble_eq_true rfl⟩ hK hA x1 x2 σ s.heap [] ls (lv_sub hl [0, 1, 2] rfl) ⟨hP, hD, va_S.rf⟩ hw
def C_X6_count_b91 (b : Nat → Nat) (k : Nat → ClassId) (Q : Int32 → cS → Prop) (σ : cS) : Prop :=
 Q (0 : Int32) σ
set_option maxHeartbeats 4000000 in
set_option maxRecDepth 100000 in
theorem cB_X6_count_91 {Q : Int32 → cS → Prop} (X : CallFix p m c cX6_count 8 s args wsX6_count RX6) (hr : meth.sig.returnType = (some .int)) (hlk : meth.locks = false) (hR : 3 ≤ R.frames ∧ 70 ≤ R.locals) (hK : cK dC dI k s) (hA : ∀ q, s.heap.size ≤ q → A q) (σ : cS) (H : Heap) (locs : List Loc) (ls : Array Slot) (hl : lv_has ls 8 [(0, .ref (b 0))]) (hO : cO dC dI b k A s.heap σ H locs) (hw : C_X6_count_b91 b k Q σ) : W p l e R s m args below meth c H locs 0 0 (MQ below (va_Qi Q (cAt dC dI A b k) A) args s 0 0 A) (F0 m 91 ls []) := by
  unfold C_X6_count_b91 at hw
  refine lv_iconst (v := 0) X.1 X.2.1 dX6_count_91 (by decide) ?_
  exact W.iret (v := (0 : Int32)) X.1 X.2.1 hr (fun t ht hW => ⟨⟨(0 : Int32), σ, rfl, hw, cO_end hO hK ht hW⟩, hO.2.2.F ht⟩) hO.2.2.2.2 dX6_count_92 hlk
def C_X6_count_b36_s (b : Nat → Nat) (k : Nat → ClassId) (Q : Int32 → cS → Prop) (K36 : Int32 → Int32 → Int32 → Int32 → Int32 → cS → Prop) (x2 : Int32) (x3 : Int32) (x4 : Int32) (x5 : Int32) (x6 : Int32) (σ : cS) : Prop :=
 (x4 ≤ x6 → C_X6_count_b91 b k Q σ) ∧ (¬ x4 ≤ x6 → (x5 = (-1 : Int32) → C_X6_count_b91 b k Q σ) ∧ (¬ x5 = (-1 : Int32) → vp_in x5 16 ∧ ∃ a61 : Nat, pX σ.2.2.2.2 (σ.2.2.1 x5.toNatClampNeg) 0 a61 ∧ C_X0_annotationsOf_w b k a61 (fun r61 t61 => (r61 ≤ 0 → C_X1_superclass_w b k (fun r80 t80 => ∀ v85 : Int32, v85 = x6 + (1 : Int32) → K36 x2 x3 x4 r80 v85 t80) x5 t61) ∧ (¬ r61 ≤ 0 → Q r61 t61)) x2 x3 σ))
def C_X6_count_b36_f (b : Nat → Nat) (k : Nat → ClassId) (Q : Int32 → cS → Prop) : (Int32 × Int32 × Int32 × Int32 × Int32 × cS → Prop) → Int32 × Int32 × Int32 × Int32 × Int32 × cS → Prop :=
 fun K z => C_X6_count_b36_s b k Q (fun x2 x3 x4 x5 x6 σ => K (x2, x3, x4, x5, x6, σ)) z.1 z.2.1 z.2.2.1 z.2.2.2.1 z.2.2.2.2.1 z.2.2.2.2.2
def C_X6_count_b36 (b : Nat → Nat) (k : Nat → ClassId) (Q : Int32 → cS → Prop) (x2 : Int32) (x3 : Int32) (x4 : Int32) (x5 : Int32) (x6 : Int32) (σ : cS) : Prop := ∃ n, fx (C_X6_count_b36_f b k Q ) n (x2, x3, x4, x5, x6, σ)
set_option maxHeartbeats 4000000 in
set_option maxRecDepth 100000 in
theorem cB_X6_count_36 {Q : Int32 → cS → Prop} (X : CallFix p m c cX6_count 8 s args wsX6_count RX6) (hr : meth.sig.returnType = (some .int)) (hlk : meth.locks = false) (hR : 3 ≤ R.frames ∧ 70 ≤ R.locals) (hK : cK dC dI k s) (hA : ∀ q, s.heap.size ≤ q → A q) : ∀ (n : Nat) (x2 : Int32) (x3 : Int32) (x4 : Int32) (x5 : Int32) (x6 : Int32) (σ : cS) (H : Heap) (locs : List Loc) (ls : Array Slot), lv_has ls 8 [(0, .ref (b 0)), (2, .int x2), (3, .int x3), (4, .int x4), (5, .int x5), (6, .int x6)] → cO dC dI b k A s.heap σ H locs → fx (C_X6_count_b36_f b k Q ) n (x2, x3, x4, x5, x6, σ) → W p l e R s m args below meth c H locs 0 0 (MQ below (va_Qi Q (cAt dC dI A b k) A) args s 0 0 A) (F0 m 36 ls []) := by
  intro n
  induction n with
  | zero => intro x2 x3 x4 x5 x6 σ H locs ls hl hO hw; exact False.elim hw
  | succ n k36 =>
    intro x2 x3 x4 x5 x6 σ H locs ls hl hO hw
    have hw : C_X6_count_b36_s b k Q (fun x2 x3 x4 x5 x6 σ => fx (C_X6_count_b36_f b k Q ) n (x2, x3, x4, x5, x6, σ)) x2 x3 x4 x5 x6 σ := hw
    unfold C_X6_count_b36_s at hw
    refine lv_iload X.1 X.2.1 dX6_count_36 (lv_at hl 5 rfl) ?_
    refine lv_iload X.1 X.2.1 dX6_count_38 (lv_at hl 3 rfl) ?_
    refine lv_icmp_ge (tgt := 91) X.1 X.2.1 dX6_count_40 rfl (fun hc9 => ?_) (fun hc9 => ?_)
    · have hw := hw.1 hc9
      exact cB_X6_count_91 X hr hlk hR hK hA σ H locs ls (lv_sub hl [0] rfl) hO hw
    · have hw := hw.2 hc9
      refine lv_iload X.1 X.2.1 dX6_count_43 (lv_at hl 4 rfl) ?_
      refine lv_iconst (v := -1) X.1 X.2.1 dX6_count_45 (by decide) ?_
      refine lv_icmp_eq (tgt := 91) X.1 X.2.1 dX6_count_46 rfl (fun hc9 => ?_) (fun hc9 => ?_)
      · have hw := hw.1 hc9
        exact cB_X6_count_91 X hr hlk hR hK hA σ H locs ls (lv_sub hl [0] rfl) hO hw
      · have hw := hw.2 hc9
        refine lv_aload_n X.1 X.2.1 dX6_count_49 rfl (lv_at hl 0 rfl) ?_
        refine cf_X6_knownClasses X fX6_X6_knownClasses hK hO dX6_count_50 ?_
        refine cf_X1_files X fX6_X1_files hK hO dX6_count_53 ?_
        refine lv_iload X.1 X.2.1 dX6_count_56 (lv_at hl 4 rfl) ?_
        obtain ⟨g58, hw⟩ := hw
        refine ca_6 X.1 X.2.1 hK hO g58 dX6_count_58 ?_
        refine lv_iload_n X.1 X.2.1 dX6_count_59 rfl (lv_at hl 1 rfl) ?_
        refine lv_iload_n X.1 X.2.1 dX6_count_60 rfl (lv_at hl 2 rfl) ?_
        obtain ⟨a61, z61, hw⟩ := hw
        refine c_calliO (rest := []) (As := [.int x2, .int x3]) X (cC_X0_annotationsOf l dC dI b k σ H.size a61 x2 x3 _ hw) (cwV 2 X.2.2.2.2 gX6_X0_annotationsOf rfl rfl rfl hdX0_annotationsOf ⟨Nat.le_trans (show 2 + 1 ≤ 3 by decide) hR.1, Nat.le_trans (show 8 + (5 + 11) + 46 ≤ 70 by decide) hR.2⟩) (cRecvP hK hO z61 rfl) z61.1 hK hA hO rfl hl.1 rfl (Nat.le_of_ble_eq_true rfl) dX6_count_61 (Nat.zero_le _) (Nat.zero_le _) (fun r61 t61 H locs hO hw => ?_)
        refine lv_istore (lv' := [(7, .int r61), (0, .ref (b 0)), (2, .int x2), (3, .int x3), (4, .int x4), (5, .int x5), (6, .int x6)]) X.1 X.2.1 dX6_count_64 hl (by decide) rfl (fun ls hl => ?_)
        refine lv_iload X.1 X.2.1 dX6_count_66 (lv_at hl 0 rfl) ?_
        refine lv_if_le (tgt := 74) X.1 X.2.1 dX6_count_68 rfl (fun hc9 => ?_) (fun hc9 => ?_)
        · have hw := hw.1 hc9
          refine lv_aload_n X.1 X.2.1 dX6_count_74 rfl (lv_at hl 1 rfl) ?_
          refine cf_X6_knownClasses X fX6_X6_knownClasses hK hO dX6_count_75 ?_
          refine lv_iload X.1 X.2.1 dX6_count_78 (lv_at hl 5 rfl) ?_
          refine c_calli (rest := []) (As := [.int x5]) X (cC_X1_superclass l dC dI b k t61 H.size x5 _ hw) (cwV 1 X.2.2.2.2 gX6_X1_superclass rfl rfl rfl hdX1_superclass ⟨Nat.le_trans (show 1 + 1 ≤ 3 by decide) hR.1, Nat.le_trans (show 8 + (2 + 11) + 21 ≤ 70 by decide) hR.2⟩) (cRecv_X1 hK hO) hK hA hO rfl hl.1 rfl (Nat.le_of_ble_eq_true rfl) dX6_count_80 (Nat.zero_le _) (Nat.zero_le _) (fun r80 t80 H locs hO hw => ?_)
          refine lv_istore (lv' := [(5, .int r80), (7, .int r61), (0, .ref (b 0)), (2, .int x2), (3, .int x3), (4, .int x4), (6, .int x6)]) X.1 X.2.1 dX6_count_83 hl (by decide) rfl (fun ls hl => ?_)
          obtain ⟨v85, e85⟩ : ∃ z, z = x6 + (1 : Int32) := ⟨_, rfl⟩
          have hw := hw v85 e85
          refine lv_iinc (lv' := [(6, .int v85), (5, .int r80), (7, .int r61), (0, .ref (b 0)), (2, .int x2), (3, .int x3), (4, .int x4)]) (k := 6) (v := v85) X.1 X.2.1 dX6_count_85 hl rfl (by rw [e85]; rfl) (by decide) rfl (fun ls hl => ?_)
          refine lv_goto (tgt := 36) X.1 X.2.1 dX6_count_88 rfl ?_
          exact k36 x2 x3 x4 r80 v85 t80 H locs ls (lv_sub hl [3, 4, 5, 6, 1, 0] rfl) hO hw
        · have hw := hw.2 hc9
          refine lv_iload X.1 X.2.1 dX6_count_71 (lv_at hl 0 rfl) ?_
          exact W.iret (v := r61) X.1 X.2.1 hr (fun t ht hW => ⟨⟨r61, t61, rfl, hw, cO_end hO hK ht hW⟩, hO.2.2.F ht⟩) hO.2.2.2.2 dX6_count_73 hlk
def C_X6_count_b0 (b : Nat → Nat) (k : Nat → ClassId) (Q : Int32 → cS → Prop) (x1 : Int32) (x2 : Int32) (σ : cS) : Prop :=
 C_X6_areThere_w b k (fun r3 t3 => (¬ r3 = 0 → C_X1_containerOf_w b k (fun r16 t16 => C_X1_chainSteps_w b k (fun r25 t25 => C_X6_count_b36 b k Q x2 r16 r25 x1 (0 : Int32) t25) x2 t16) x2 t3) ∧ (r3 = 0 → Q (0 : Int32) t3)) x1 x2 σ
set_option maxHeartbeats 4000000 in
set_option maxRecDepth 100000 in
theorem cB_X6_count_0 {Q : Int32 → cS → Prop} (X : CallFix p m c cX6_count 8 s args wsX6_count RX6) (hr : meth.sig.returnType = (some .int)) (hlk : meth.locks = false) (hR : 3 ≤ R.frames ∧ 70 ≤ R.locals) (hK : cK dC dI k s) (hA : ∀ q, s.heap.size ≤ q → A q) (x1 : Int32) (x2 : Int32) (σ : cS) (H : Heap) (locs : List Loc) (ls : Array Slot) (hl : lv_has ls 8 [(0, .ref (b 0)), (1, .int x1), (2, .int x2)]) (hO : cO dC dI b k A s.heap σ H locs) (hw : C_X6_count_b0 b k Q x1 x2 σ) : W p l e R s m args below meth c H locs 0 0 (MQ below (va_Qi Q (cAt dC dI A b k) A) args s 0 0 A) (F0 m 0 ls []) := by
  unfold C_X6_count_b0 at hw
  refine lv_aload_n X.1 X.2.1 dX6_count_0 rfl (lv_at hl 0 rfl) ?_
  refine lv_iload_n X.1 X.2.1 dX6_count_1 rfl (lv_at hl 1 rfl) ?_
  refine lv_iload_n X.1 X.2.1 dX6_count_2 rfl (lv_at hl 2 rfl) ?_
  refine c_calli (rest := []) (As := [.int x1, .int x2]) X (cC_X6_areThere l dC dI b k σ H.size x1 x2 _ hw) (cwV 2 X.2.2.2.2 gX6_X6_areThere rfl rfl rfl hdX6_areThere ⟨Nat.le_trans (show 1 + 1 ≤ 3 by decide) hR.1, Nat.le_trans (show 8 + (3 + 11) + 21 ≤ 70 by decide) hR.2⟩) (cRecv_X6 hK hO) hK hA hO rfl hl.1 rfl (Nat.le_of_ble_eq_true rfl) dX6_count_3 (Nat.zero_le _) (Nat.zero_le _) (fun r3 t3 H locs hO hw => ?_)
  refine lv_if_ne (tgt := 11) X.1 X.2.1 dX6_count_6 rfl (fun hc9 => ?_) (fun hc9 => ?_)
  · have hw := hw.1 hc9
    refine lv_aload_n X.1 X.2.1 dX6_count_11 rfl (lv_at hl 0 rfl) ?_
    refine cf_X6_knownClasses X fX6_X6_knownClasses hK hO dX6_count_12 ?_
    refine lv_iload_n X.1 X.2.1 dX6_count_15 rfl (lv_at hl 2 rfl) ?_
    refine c_calli (rest := []) (As := [.int x2]) X (cC_X1_containerOf l dC dI b k t3 H.size x2 _ hw) (cwV 1 X.2.2.2.2 gX6_X1_containerOf rfl rfl rfl hdX1_containerOf ⟨Nat.le_trans (show 1 + 1 ≤ 3 by decide) hR.1, Nat.le_trans (show 8 + (3 + 11) + 21 ≤ 70 by decide) hR.2⟩) (cRecv_X1 hK hO) hK hA hO rfl hl.1 rfl (Nat.le_of_ble_eq_true rfl) dX6_count_16 (Nat.zero_le _) (Nat.zero_le _) (fun r16 t16 H locs hO hw => ?_)
    refine lv_istore_n (lv' := [(3, .int r16), (0, .ref (b 0)), (1, .int x1), (2, .int x2)]) X.1 X.2.1 dX6_count_19 rfl hl (by decide) rfl (fun ls hl => ?_)
    refine lv_aload_n X.1 X.2.1 dX6_count_20 rfl (lv_at hl 1 rfl) ?_
    refine cf_X6_knownClasses X fX6_X6_knownClasses hK hO dX6_count_21 ?_
    refine lv_iload_n X.1 X.2.1 dX6_count_24 rfl (lv_at hl 3 rfl) ?_
    refine c_calli (rest := []) (As := [.int x2]) X (cC_X1_chainSteps l dC dI b k t16 H.size x2 _ hw) (cwV 1 X.2.2.2.2 gX6_X1_chainSteps rfl rfl rfl hdX1_chainSteps ⟨Nat.le_trans (show 1 + 1 ≤ 3 by decide) hR.1, Nat.le_trans (show 8 + (4 + 11) + 21 ≤ 70 by decide) hR.2⟩) (cRecv_X1 hK hO) hK hA hO rfl hl.1 rfl (Nat.le_of_ble_eq_true rfl) dX6_count_25 (Nat.zero_le _) (Nat.zero_le _) (fun r25 t25 H locs hO hw => ?_)
    refine lv_istore (lv' := [(4, .int r25), (3, .int r16), (0, .ref (b 0)), (1, .int x1), (2, .int x2)]) X.1 X.2.1 dX6_count_28 hl (by decide) rfl (fun ls hl => ?_)
    refine lv_iload_n X.1 X.2.1 dX6_count_30 rfl (lv_at hl 3 rfl) ?_
    refine lv_istore (lv' := [(5, .int x1), (4, .int r25), (3, .int r16), (0, .ref (b 0)), (1, .int x1), (2, .int x2)]) X.1 X.2.1 dX6_count_31 hl (by decide) rfl (fun ls hl => ?_)
    refine lv_iconst (v := 0) X.1 X.2.1 dX6_count_33 (by decide) ?_
    refine lv_istore (lv' := [(6, .int (0 : Int32)), (5, .int x1), (4, .int r25), (3, .int r16), (0, .ref (b 0)), (1, .int x1), (2, .int x2)]) X.1 X.2.1 dX6_count_34 hl (by decide) rfl (fun ls hl => ?_)
    obtain ⟨n, hw⟩ := hw
    exact cB_X6_count_36 X hr hlk hR hK hA n x2 r16 r25 x1 (0 : Int32) t25 H locs ls (lv_sub hl [4, 6, 3, 2, 1, 0] rfl) hO hw
  · have hw := hw.2 hc9
    refine lv_iconst (v := 0) X.1 X.2.1 dX6_count_9 (by decide) ?_
    exact W.iret (v := (0 : Int32)) X.1 X.2.1 hr (fun t ht hW => ⟨⟨(0 : Int32), t3, rfl, hw, cO_end hO hK ht hW⟩, hO.2.2.F ht⟩) hO.2.2.2.2 dX6_count_10 hlk
def C_X6_count_w (b : Nat → Nat) (k : Nat → ClassId) (Q : Int32 → cS → Prop) (x1 : Int32) (x2 : Int32) (σ : cS) : Prop := C_X6_count_b0 b k Q x1 x2 σ
abbrev rmX6_count : Room := { frames := 3, cells := 0, slots := 0, locals := 70 }
set_option maxHeartbeats 4000000 in
set_option maxRecDepth 100000 in
theorem cC_X6_count (l : Launch) (dC : Nat → ClassId) (dI : Nat → Nat → Nat) (b : Nat → Nat) (k : Nat → ClassId) (σ : cS) (sz : Nat) (x1 : Int32) (x2 : Int32) (Q : Int32 → cS → Prop) (hw : C_X6_count_w b k Q x1 x2 σ) : Met l yX6_count wsX6_count rmX6_count (cPc dC dI b k sz σ [.ref (b 0), .int x1, .int x2]) (va_Qi Q (cAt dC dI (va_A (cCells b k σ) sz) b k) (va_A (cCells b k σ) sz)) 0 0 (va_A (cCells b k σ) sz) := by
  refine Met.ofW (cc := cX6_count) (maxL := 8) (ret := (some .int)) (by decide) rfl ?_
  intro p e s m args below meth c s₁ B hml hv
  obtain ⟨hargs, hsz, hP, hK, hD0⟩ := hv
  have hts := atoms_spec (ws := wsX6_count) B.pre
  have hown : s.vm.findClass RX6 = some m.cls := findClass_of_methodNamed B.named
  subst hsz
  subst hargs
  have hD := hD0.self (sz := s.heap.size)
  generalize hAe : va_A (cCells b k σ) s.heap.size = A at hD ⊢
  have hA : ∀ q : Nat, s.heap.size ≤ q → A q := fun q h => by rw [← hAe]; exact Or.inr h
  have hl := lv_entry ([.ref (b 0), .int x1, .int x2]) (n := 8) (Nat.le_of_ble_eq_true rfl)
  rw [lg_entry_eq]
  generalize (lg_sl ([.ref (b 0), .int x1, .int x2]) ++ List.replicate (8 - (lg_sl ([.ref (b 0), .int x1, .int x2])).length) Slot.unset).toArray = ls at hl ⊢
  have hl : lv_has ls 8 [(0, .ref (b 0)), (1, .int x1), (2, .int x2)] := hl
  unfold C_X6_count_w at hw
  exact cB_X6_count_0 ⟨B.exec, B.bytes, hml, hown, hts⟩ B.returns B.notSynchronized ⟨Nat.le_of_ble_eq_true rfl, Nat.le_of_ble_eq_true rfl⟩ hK hA x1 x2 σ s.heap [] ls (lv_sub hl [0, 1, 2] rfl) ⟨hP, hD, va_S.rf⟩ hw
def C_X6_meta_b27 (b : Nat → Nat) (k : Nat → ClassId) (Q : Int32 → cS → Prop) (y0 : Int32) (σ : cS) : Prop :=
 zb y0 ∧ Q y0 σ
set_option maxHeartbeats 4000000 in
set_option maxRecDepth 100000 in
theorem cB_X6_meta_27 {Q : Int32 → cS → Prop} (X : CallFix p m c cX6_meta 3 s args wsX6_meta RX6) (hr : meth.sig.returnType = (some .boolean)) (hlk : meth.locks = false) (hR : 2 ≤ R.frames ∧ 49 ≤ R.locals) (hK : cK dC dI k s) (hA : ∀ q, s.heap.size ≤ q → A q) (y0 : Int32) (σ : cS) (H : Heap) (locs : List Loc) (ls : Array Slot) (hl : lv_has ls 3 [(0, .ref (b 0))]) (hO : cO dC dI b k A s.heap σ H locs) (hw : C_X6_meta_b27 b k Q y0 σ) : W p l e R s m args below meth c H locs 0 0 (MQ below (va_Qi Q (cAt dC dI A b k) A) args s 0 0 A) (F0 m 27 ls [.int y0]) := by
  unfold C_X6_meta_b27 at hw
  obtain ⟨hz, hw⟩ := hw
  exact W.zret (v := y0) X.1 X.2.1 hr hz (fun t ht hW => ⟨⟨y0, σ, rfl, hw, cO_end hO hK ht hW⟩, hO.2.2.F ht⟩) hO.2.2.2.2 dX6_meta_27 hlk
def C_X6_meta_b26 (b : Nat → Nat) (k : Nat → ClassId) (Q : Int32 → cS → Prop) (σ : cS) : Prop :=
 C_X6_meta_b27 b k Q (0 : Int32) σ
set_option maxHeartbeats 4000000 in
set_option maxRecDepth 100000 in
theorem cB_X6_meta_26 {Q : Int32 → cS → Prop} (X : CallFix p m c cX6_meta 3 s args wsX6_meta RX6) (hr : meth.sig.returnType = (some .boolean)) (hlk : meth.locks = false) (hR : 2 ≤ R.frames ∧ 49 ≤ R.locals) (hK : cK dC dI k s) (hA : ∀ q, s.heap.size ≤ q → A q) (σ : cS) (H : Heap) (locs : List Loc) (ls : Array Slot) (hl : lv_has ls 3 [(0, .ref (b 0))]) (hO : cO dC dI b k A s.heap σ H locs) (hw : C_X6_meta_b26 b k Q σ) : W p l e R s m args below meth c H locs 0 0 (MQ below (va_Qi Q (cAt dC dI A b k) A) args s 0 0 A) (F0 m 26 ls []) := by
  unfold C_X6_meta_b26 at hw
  refine lv_iconst (v := 0) X.1 X.2.1 dX6_meta_26 (by decide) ?_
  exact cB_X6_meta_27 X hr hlk hR hK hA (0 : Int32) σ H locs ls (lv_sub hl [0] rfl) hO hw
def C_X6_meta_b0 (b : Nat → Nat) (k : Nat → ClassId) (Q : Int32 → cS → Prop) (x1 : Int32) (x2 : Int32) (σ : cS) : Prop :=
 C_X6_areThere_w b k (fun r3 t3 => (r3 = 0 → C_X6_meta_b26 b k Q t3) ∧ (¬ r3 = 0 → C_X1_leadsTo_w b k (fun r16 t16 => (r16 = 0 → C_X6_meta_b26 b k Q t16) ∧ (¬ r16 = 0 → C_X6_meta_b27 b k Q (1 : Int32) t16)) x1 x2 (1 : Int32) t3)) x1 x2 σ
set_option maxHeartbeats 4000000 in
set_option maxRecDepth 100000 in
theorem cB_X6_meta_0 {Q : Int32 → cS → Prop} (X : CallFix p m c cX6_meta 3 s args wsX6_meta RX6) (hr : meth.sig.returnType = (some .boolean)) (hlk : meth.locks = false) (hR : 2 ≤ R.frames ∧ 49 ≤ R.locals) (hK : cK dC dI k s) (hA : ∀ q, s.heap.size ≤ q → A q) (x1 : Int32) (x2 : Int32) (σ : cS) (H : Heap) (locs : List Loc) (ls : Array Slot) (hl : lv_has ls 3 [(0, .ref (b 0)), (1, .int x1), (2, .int x2)]) (hO : cO dC dI b k A s.heap σ H locs) (hw : C_X6_meta_b0 b k Q x1 x2 σ) : W p l e R s m args below meth c H locs 0 0 (MQ below (va_Qi Q (cAt dC dI A b k) A) args s 0 0 A) (F0 m 0 ls []) := by
  unfold C_X6_meta_b0 at hw
  refine lv_aload_n X.1 X.2.1 dX6_meta_0 rfl (lv_at hl 0 rfl) ?_
  refine lv_iload_n X.1 X.2.1 dX6_meta_1 rfl (lv_at hl 1 rfl) ?_
  refine lv_iload_n X.1 X.2.1 dX6_meta_2 rfl (lv_at hl 2 rfl) ?_
  refine c_calli (rest := []) (As := [.int x1, .int x2]) X (cC_X6_areThere l dC dI b k σ H.size x1 x2 _ hw) (cwV 2 X.2.2.2.2 gX6_X6_areThere rfl rfl rfl hdX6_areThere ⟨Nat.le_trans (show 1 + 1 ≤ 2 by decide) hR.1, Nat.le_trans (show 8 + (3 + 11) + 21 ≤ 49 by decide) hR.2⟩) (cRecv_X6 hK hO) hK hA hO rfl hl.1 rfl (Nat.le_of_ble_eq_true rfl) dX6_meta_3 (Nat.zero_le _) (Nat.zero_le _) (fun r3 t3 H locs hO hw => ?_)
  refine lv_if_eq (tgt := 26) X.1 X.2.1 dX6_meta_6 rfl (fun hc9 => ?_) (fun hc9 => ?_)
  · have hw := hw.1 hc9
    exact cB_X6_meta_26 X hr hlk hR hK hA t3 H locs ls (lv_sub hl [0] rfl) hO hw
  · have hw := hw.2 hc9
    refine lv_aload_n X.1 X.2.1 dX6_meta_9 rfl (lv_at hl 0 rfl) ?_
    refine cf_X6_knownClasses X fX6_X6_knownClasses hK hO dX6_meta_10 ?_
    refine lv_iload_n X.1 X.2.1 dX6_meta_13 rfl (lv_at hl 1 rfl) ?_
    refine lv_iload_n X.1 X.2.1 dX6_meta_14 rfl (lv_at hl 2 rfl) ?_
    refine lv_iconst (v := 1) X.1 X.2.1 dX6_meta_15 (by decide) ?_
    refine c_calli (rest := []) (As := [.int x1, .int x2, .int (1 : Int32)]) X (cC_X1_leadsTo l dC dI b k t3 H.size x1 x2 (1 : Int32) _ hw) (cwV 3 X.2.2.2.2 gX6_X1_leadsTo rfl rfl rfl hdX1_leadsTo ⟨Nat.le_trans (show 1 + 1 ≤ 2 by decide) hR.1, Nat.le_trans (show 8 + (9 + 11) + 21 ≤ 49 by decide) hR.2⟩) (cRecv_X1 hK hO) hK hA hO rfl hl.1 rfl (Nat.le_of_ble_eq_true rfl) dX6_meta_16 (Nat.zero_le _) (Nat.zero_le _) (fun r16 t16 H locs hO hw => ?_)
    refine lv_if_eq (tgt := 26) X.1 X.2.1 dX6_meta_19 rfl (fun hc9 => ?_) (fun hc9 => ?_)
    · have hw := hw.1 hc9
      exact cB_X6_meta_26 X hr hlk hR hK hA t16 H locs ls (lv_sub hl [0] rfl) hO hw
    · have hw := hw.2 hc9
      refine lv_iconst (v := 1) X.1 X.2.1 dX6_meta_22 (by decide) ?_
      refine lv_goto (tgt := 27) X.1 X.2.1 dX6_meta_23 rfl ?_
      exact cB_X6_meta_27 X hr hlk hR hK hA (1 : Int32) t16 H locs ls (lv_sub hl [0] rfl) hO hw
def C_X6_meta_w (b : Nat → Nat) (k : Nat → ClassId) (Q : Int32 → cS → Prop) (x1 : Int32) (x2 : Int32) (σ : cS) : Prop := C_X6_meta_b0 b k Q x1 x2 σ
abbrev rmX6_meta : Room := { frames := 2, cells := 0, slots := 0, locals := 49 }
set_option maxHeartbeats 4000000 in
set_option maxRecDepth 100000 in
theorem cC_X6_meta (l : Launch) (dC : Nat → ClassId) (dI : Nat → Nat → Nat) (b : Nat → Nat) (k : Nat → ClassId) (σ : cS) (sz : Nat) (x1 : Int32) (x2 : Int32) (Q : Int32 → cS → Prop) (hw : C_X6_meta_w b k Q x1 x2 σ) : Met l yX6_meta wsX6_meta rmX6_meta (cPc dC dI b k sz σ [.ref (b 0), .int x1, .int x2]) (va_Qi Q (cAt dC dI (va_A (cCells b k σ) sz) b k) (va_A (cCells b k σ) sz)) 0 0 (va_A (cCells b k σ) sz) := by
  refine Met.ofW (cc := cX6_meta) (maxL := 3) (ret := (some .boolean)) (by decide) rfl ?_
  intro p e s m args below meth c s₁ B hml hv
  obtain ⟨hargs, hsz, hP, hK, hD0⟩ := hv
  have hts := atoms_spec (ws := wsX6_meta) B.pre
  have hown : s.vm.findClass RX6 = some m.cls := findClass_of_methodNamed B.named
  subst hsz
  subst hargs
  have hD := hD0.self (sz := s.heap.size)
  generalize hAe : va_A (cCells b k σ) s.heap.size = A at hD ⊢
  have hA : ∀ q : Nat, s.heap.size ≤ q → A q := fun q h => by rw [← hAe]; exact Or.inr h
  have hl := lv_entry ([.ref (b 0), .int x1, .int x2]) (n := 3) (Nat.le_of_ble_eq_true rfl)
  rw [lg_entry_eq]
  generalize (lg_sl ([.ref (b 0), .int x1, .int x2]) ++ List.replicate (3 - (lg_sl ([.ref (b 0), .int x1, .int x2])).length) Slot.unset).toArray = ls at hl ⊢
  have hl : lv_has ls 3 [(0, .ref (b 0)), (1, .int x1), (2, .int x2)] := hl
  unfold C_X6_meta_w at hw
  exact cB_X6_meta_0 ⟨B.exec, B.bytes, hml, hown, hts⟩ B.returns B.notSynchronized ⟨Nat.le_of_ble_eq_true rfl, Nat.le_of_ble_eq_true rfl⟩ hK hA x1 x2 σ s.heap [] ls (lv_sub hl [0, 1, 2] rfl) ⟨hP, hD, va_S.rf⟩ hw
end
