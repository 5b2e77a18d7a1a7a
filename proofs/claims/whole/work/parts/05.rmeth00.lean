section
variable {p : Program} {l : Launch} {e : Env} {R : Room} {s : State} {m : MethodId} {args : Array Value} {below : List Frame} {meth : Method} {c : Code}
variable {dC : Nat → ClassId} {dI : Nat → Nat → Nat} {h : Nat} {a : Nat → Nat} {cI cZ : ClassId} {A : Nat → Prop}
def R_put_b22 (Q : Int32 → rS → Prop) (σ : rS) : Prop :=
 Q (0 : Int32) σ
set_option maxHeartbeats 4000000 in
set_option maxRecDepth 100000 in
theorem rB_put_22 {Q : Int32 → rS → Prop} (X : CallFix p m c cX7_put 5 s args wsX7_put RX7) (hr : meth.sig.returnType = (some .boolean)) (hlk : meth.locks = false) (hR : 0 ≤ R.frames ∧ 0 ≤ R.locals) (hK : va_K (dC, dI) vwCl [(cI, .int), (cZ, .boolean)] s) (hA : ∀ q, s.heap.size ≤ q → A q) (σ : rS) (H : Heap) (locs : List Loc) (ls : Array Slot) (hl : lv_has ls 5 [(0, .ref h)]) (hO : rO dC dI h a cI cZ A s.heap σ H locs) (hw : R_put_b22 Q σ) : W p l e R s m args below meth c H locs 0 0 (MQ below (va_Qi Q (rAt dC dI A h a cI cZ) A) args s 0 0 A) (F0 m 22 ls []) := by
  unfold R_put_b22 at hw
  refine lv_iconst (v := 0) X.1 X.2.1 dX7_put_22 (by decide) ?_
  exact W.zret (v := (0 : Int32)) X.1 X.2.1 hr rfl (fun t ht hW => ⟨⟨(0 : Int32), σ, rfl, hw, rO_end hO hK ht hW⟩, hO.2.2.F ht⟩) hO.2.2.2.2 dX7_put_23 hlk
def R_put_b29_s (Q : Int32 → rS → Prop) (K29 : Int64 → Int32 → rS → Prop) (x1 : Int64) (x4 : Int32) (σ : rS) : Prop :=
 (x4 < 0 → Q (1 : Int32) σ) ∧ (¬ x4 < 0 → vp_in (σ.1 1) 120 ∧ ∀ t54 : rS, t54 = rA σ 0 (σ.1 1) (((x1 >>> (((8 : Int32) * x4).toInt64 &&& 63)).toInt32) &&& (255 : Int32)) → ∀ t62 : rS, t62 = rI t54 1 ((t54.1 1) + (1 : Int32)) → ∀ v65 : Int32, v65 = x4 + (-1 : Int32) → K29 x1 v65 t62)
def R_put_b29_f (Q : Int32 → rS → Prop) : (Int64 × Int32 × rS → Prop) → Int64 × Int32 × rS → Prop :=
 fun K z => R_put_b29_s Q (fun x1 x4 σ => K (x1, x4, σ)) z.1 z.2.1 z.2.2
def R_put_b29 (Q : Int32 → rS → Prop) (x1 : Int64) (x4 : Int32) (σ : rS) : Prop := ∃ n, fx (R_put_b29_f Q ) n (x1, x4, σ)
set_option maxHeartbeats 4000000 in
set_option maxRecDepth 100000 in
theorem rB_put_29 {Q : Int32 → rS → Prop} (X : CallFix p m c cX7_put 5 s args wsX7_put RX7) (hr : meth.sig.returnType = (some .boolean)) (hlk : meth.locks = false) (hR : 0 ≤ R.frames ∧ 0 ≤ R.locals) (hK : va_K (dC, dI) vwCl [(cI, .int), (cZ, .boolean)] s) (hA : ∀ q, s.heap.size ≤ q → A q) : ∀ (n : Nat) (x1 : Int64) (x4 : Int32) (σ : rS) (H : Heap) (locs : List Loc) (ls : Array Slot), lv_has ls 5 [(0, .ref h), (1, .long x1), (4, .int x4)] → rO dC dI h a cI cZ A s.heap σ H locs → fx (R_put_b29_f Q ) n (x1, x4, σ) → W p l e R s m args below meth c H locs 0 0 (MQ below (va_Qi Q (rAt dC dI A h a cI cZ) A) args s 0 0 A) (F0 m 29 ls []) := by
  intro n
  induction n with
  | zero => intro x1 x4 σ H locs ls hl hO hw; exact False.elim hw
  | succ n k29 =>
    intro x1 x4 σ H locs ls hl hO hw
    have hw : R_put_b29_s Q (fun x1 x4 σ => fx (R_put_b29_f Q ) n (x1, x4, σ)) x1 x4 σ := hw
    unfold R_put_b29_s at hw
    refine lv_iload X.1 X.2.1 dX7_put_29 (lv_at hl 2 rfl) ?_
    refine lv_if_lt (tgt := 71) X.1 X.2.1 dX7_put_31 rfl (fun hc9 => ?_) (fun hc9 => ?_)
    · have hw := hw.1 hc9
      refine lv_iconst (v := 1) X.1 X.2.1 dX7_put_71 (by decide) ?_
      exact W.zret (v := (1 : Int32)) X.1 X.2.1 hr rfl (fun t ht hW => ⟨⟨(1 : Int32), σ, rfl, hw, rO_end hO hK ht hW⟩, hO.2.2.F ht⟩) hO.2.2.2.2 dX7_put_72 hlk
    · have hw := hw.2 hc9
      refine lv_aload_n X.1 X.2.1 dX7_put_34 rfl (lv_at hl 0 rfl) ?_
      refine rf_buffer X hK hO dX7_put_35 ?_
      refine lv_aload_n X.1 X.2.1 dX7_put_38 rfl (lv_at hl 0 rfl) ?_
      refine rf_held X hK hO dX7_put_39 ?_
      refine lv_lload_n X.1 X.2.1 dX7_put_42 rfl (lv_at hl 1 rfl) ?_
      refine lv_bipush (v := 8) X.1 X.2.1 dX7_put_43 (by decide) ?_
      refine lv_iload X.1 X.2.1 dX7_put_45 (lv_at hl 2 rfl) ?_
      refine lv_imul X.1 X.2.1 dX7_put_47 ?_
      refine lv_lshr X.1 X.2.1 dX7_put_48 rfl ?_
      refine lv_l2i X.1 X.2.1 dX7_put_49 rfl ?_
      refine lv_sipush (v := 255) X.1 X.2.1 dX7_put_50 (by decide) ?_
      refine lv_iand X.1 X.2.1 dX7_put_53 ?_
      obtain ⟨g54, hw⟩ := hw
      refine rs_buffer X.1 X.2.1 hK hO g54 dX7_put_54 (fun H locs hO => ?_)
      obtain ⟨t54, e54⟩ : ∃ z, z = rA σ 0 (σ.1 1) (((x1 >>> (((8 : Int32) * x4).toInt64 &&& 63)).toInt32) &&& (255 : Int32)) := ⟨_, rfl⟩
      have hw := hw t54 e54
      rw [← e54] at hO
      refine lv_aload_n X.1 X.2.1 dX7_put_55 rfl (lv_at hl 0 rfl) ?_
      refine lv_dup X.1 X.2.1 dX7_put_56 rfl ?_
      refine rf_held X hK hO dX7_put_57 ?_
      refine lv_iconst (v := 1) X.1 X.2.1 dX7_put_60 (by decide) ?_
      refine lv_iadd X.1 X.2.1 dX7_put_61 ?_
      refine rp_held X hK hO dX7_put_62 (fun H locs hO => ?_)
      obtain ⟨t62, e62⟩ : ∃ z, z = rI t54 1 ((t54.1 1) + (1 : Int32)) := ⟨_, rfl⟩
      have hw := hw t62 e62
      rw [← e62] at hO
      obtain ⟨v65, e65⟩ : ∃ z, z = x4 + (-1 : Int32) := ⟨_, rfl⟩
      have hw := hw v65 e65
      refine lv_iinc (lv' := [(4, .int v65), (0, .ref h), (1, .long x1)]) (k := 2) (v := v65) X.1 X.2.1 dX7_put_65 hl rfl (by rw [e65]; rfl) (by decide) rfl (fun ls hl => ?_)
      refine lv_goto (tgt := 29) X.1 X.2.1 dX7_put_68 rfl ?_
      exact k29 x1 v65 t62 H locs ls (lv_sub hl [1, 2, 0] rfl) hO hw
def R_put_b0 (Q : Int32 → rS → Prop) (x1 : Int64) (x3 : Int32) (σ : rS) : Prop :=
 (x3 < (1 : Int32) → R_put_b22 Q σ) ∧ (¬ x3 < (1 : Int32) → ((8 : Int32) < x3 → R_put_b22 Q σ) ∧ (¬ (8 : Int32) < x3 → (((σ.1 1) + x3) ≤ (120 : Int32) → ∀ v27 : Int32, v27 = (x3 - (1 : Int32)) → R_put_b29 Q x1 v27 σ) ∧ (¬ ((σ.1 1) + x3) ≤ (120 : Int32) → R_put_b22 Q σ)))
set_option maxHeartbeats 4000000 in
set_option maxRecDepth 100000 in
theorem rB_put_0 {Q : Int32 → rS → Prop} (X : CallFix p m c cX7_put 5 s args wsX7_put RX7) (hr : meth.sig.returnType = (some .boolean)) (hlk : meth.locks = false) (hR : 0 ≤ R.frames ∧ 0 ≤ R.locals) (hK : va_K (dC, dI) vwCl [(cI, .int), (cZ, .boolean)] s) (hA : ∀ q, s.heap.size ≤ q → A q) (x1 : Int64) (x3 : Int32) (σ : rS) (H : Heap) (locs : List Loc) (ls : Array Slot) (hl : lv_has ls 5 [(0, .ref h), (1, .long x1), (3, .int x3)]) (hO : rO dC dI h a cI cZ A s.heap σ H locs) (hw : R_put_b0 Q x1 x3 σ) : W p l e R s m args below meth c H locs 0 0 (MQ below (va_Qi Q (rAt dC dI A h a cI cZ) A) args s 0 0 A) (F0 m 0 ls []) := by
  unfold R_put_b0 at hw
  refine lv_iload_n X.1 X.2.1 dX7_put_0 rfl (lv_at hl 2 rfl) ?_
  refine lv_iconst (v := 1) X.1 X.2.1 dX7_put_1 (by decide) ?_
  refine lv_icmp_lt (tgt := 22) X.1 X.2.1 dX7_put_2 rfl (fun hc9 => ?_) (fun hc9 => ?_)
  · have hw := hw.1 hc9
    exact rB_put_22 X hr hlk hR hK hA σ H locs ls (lv_sub hl [0] rfl) hO hw
  · have hw := hw.2 hc9
    refine lv_iload_n X.1 X.2.1 dX7_put_5 rfl (lv_at hl 2 rfl) ?_
    refine lv_bipush (v := 8) X.1 X.2.1 dX7_put_6 (by decide) ?_
    refine lv_icmp_gt (tgt := 22) X.1 X.2.1 dX7_put_8 rfl (fun hc9 => ?_) (fun hc9 => ?_)
    · have hw := hw.1 hc9
      exact rB_put_22 X hr hlk hR hK hA σ H locs ls (lv_sub hl [0] rfl) hO hw
    · have hw := hw.2 hc9
      refine lv_aload_n X.1 X.2.1 dX7_put_11 rfl (lv_at hl 0 rfl) ?_
      refine rf_held X hK hO dX7_put_12 ?_
      refine lv_iload_n X.1 X.2.1 dX7_put_15 rfl (lv_at hl 2 rfl) ?_
      refine lv_iadd X.1 X.2.1 dX7_put_16 ?_
      refine lv_bipush (v := 120) X.1 X.2.1 dX7_put_17 (by decide) ?_
      refine lv_icmp_le (tgt := 24) X.1 X.2.1 dX7_put_19 rfl (fun hc9 => ?_) (fun hc9 => ?_)
      · have hw := hw.1 hc9
        refine lv_iload_n X.1 X.2.1 dX7_put_24 rfl (lv_at hl 2 rfl) ?_
        refine lv_iconst (v := 1) X.1 X.2.1 dX7_put_25 (by decide) ?_
        refine lv_isub X.1 X.2.1 dX7_put_26 ?_
        refine lv_topi (fun v27 e27 => ?_)
        have hw := hw v27 e27
        refine lv_istore (lv' := [(4, .int v27), (0, .ref h), (1, .long x1), (3, .int x3)]) X.1 X.2.1 dX7_put_27 hl (by decide) rfl (fun ls hl => ?_)
        obtain ⟨n, hw⟩ := hw
        exact rB_put_29 X hr hlk hR hK hA n x1 v27 σ H locs ls (lv_sub hl [1, 2, 0] rfl) hO hw
      · have hw := hw.2 hc9
        exact rB_put_22 X hr hlk hR hK hA σ H locs ls (lv_sub hl [0] rfl) hO hw
def R_put_w (Q : Int32 → rS → Prop) (x1 : Int64) (x3 : Int32) (σ : rS) : Prop := R_put_b0 Q x1 x3 σ
abbrev rmX7_put : Room := { frames := 0, cells := 0, slots := 0, locals := 0 }
set_option maxHeartbeats 4000000 in
set_option maxRecDepth 100000 in
theorem rC_put (l : Launch) (dC : Nat → ClassId) (dI : Nat → Nat → Nat) (h : Nat) (a : Nat → Nat) (cI cZ : ClassId) (σ : rS) (sz : Nat) (x1 : Int64) (x3 : Int32) (Q : Int32 → rS → Prop) (hw : R_put_w Q x1 x3 σ) : Met l yX7_put wsX7_put rmX7_put (rPc dC dI h a cI cZ sz σ [.ref h, .long x1, .int x3]) (va_Qi Q (rAt dC dI (va_A (rCells h a cI cZ σ) sz) h a cI cZ) (va_A (rCells h a cI cZ σ) sz)) 0 0 (va_A (rCells h a cI cZ σ) sz) := by
  refine Met.ofW (cc := cX7_put) (maxL := 5) (ret := (some .boolean)) (by decide) rfl ?_
  intro p e s m args below meth c s₁ B hml hv
  obtain ⟨hargs, hsz, hP, hK, hD0⟩ := hv
  have hts := atoms_spec (ws := wsX7_put) B.pre
  have hown : s.vm.findClass RX7 = some m.cls := findClass_of_methodNamed B.named
  subst hsz
  subst hargs
  have hD := hD0.self (sz := s.heap.size)
  generalize hAe : va_A (rCells h a cI cZ σ) s.heap.size = A at hD ⊢
  have hA : ∀ q : Nat, s.heap.size ≤ q → A q := fun q h => by rw [← hAe]; exact Or.inr h
  have hl := lv_entry ([.ref h, .long x1, .int x3]) (n := 5) (Nat.le_of_ble_eq_true rfl)
  rw [lg_entry_eq]
  generalize (lg_sl ([.ref h, .long x1, .int x3]) ++ List.replicate (5 - (lg_sl ([.ref h, .long x1, .int x3])).length) Slot.unset).toArray = ls at hl ⊢
  have hl : lv_has ls 5 [(0, .ref h), (1, .long x1), (3, .int x3)] := hl
  unfold R_put_w at hw
  exact rB_put_0 ⟨B.exec, B.bytes, hml, hown, hts⟩ B.returns B.notSynchronized ⟨Nat.le_of_ble_eq_true rfl, Nat.le_of_ble_eq_true rfl⟩ hK hA x1 x3 σ s.heap [] ls (lv_sub hl [0, 1, 2] rfl) ⟨hP, hD, va_S.rf⟩ hw
def R_drop_b0 (Q : rS → Prop) (σ : rS) : Prop :=
 ∀ t2 : rS, t2 = rI σ 1 (0 : Int32) → Q t2
set_option maxHeartbeats 4000000 in
set_option maxRecDepth 100000 in
theorem rB_drop_0 {Q : rS → Prop} (X : CallFix p m c cX7_drop 1 s args wsX7_drop RX7) (hr : meth.sig.returnType = none) (hlk : meth.locks = false) (hR : 0 ≤ R.frames ∧ 0 ≤ R.locals) (hK : va_K (dC, dI) vwCl [(cI, .int), (cZ, .boolean)] s) (hA : ∀ q, s.heap.size ≤ q → A q) (σ : rS) (H : Heap) (locs : List Loc) (ls : Array Slot) (hl : lv_has ls 1 [(0, .ref h)]) (hO : rO dC dI h a cI cZ A s.heap σ H locs) (hw : R_drop_b0 Q σ) : W p l e R s m args below meth c H locs 0 0 (MQ below (va_Qv Q (rAt dC dI A h a cI cZ) A) args s 0 0 A) (F0 m 0 ls []) := by
  unfold R_drop_b0 at hw
  refine lv_aload_n X.1 X.2.1 dX7_drop_0 rfl (lv_at hl 0 rfl) ?_
  refine lv_iconst (v := 0) X.1 X.2.1 dX7_drop_1 (by decide) ?_
  refine rp_held X hK hO dX7_drop_2 (fun H locs hO => ?_)
  obtain ⟨t2, e2⟩ : ∃ z, z = rI σ 1 (0 : Int32) := ⟨_, rfl⟩
  have hw := hw t2 e2
  rw [← e2] at hO
  exact W.vret X.1 X.2.1 hr (fun t ht hW => ⟨⟨t2, rfl, hw, rO_end hO hK ht hW⟩, hO.2.2.F ht⟩) hO.2.2.2.2 dX7_drop_5 hlk
def R_drop_w (Q : rS → Prop) (σ : rS) : Prop := R_drop_b0 Q σ
abbrev rmX7_drop : Room := { frames := 0, cells := 0, slots := 0, locals := 0 }
set_option maxHeartbeats 4000000 in
set_option maxRecDepth 100000 in
theorem rC_drop (l : Launch) (dC : Nat → ClassId) (dI : Nat → Nat → Nat) (h : Nat) (a : Nat → Nat) (cI cZ : ClassId) (σ : rS) (sz : Nat) (Q : rS → Prop) (hw : R_drop_w Q σ) : Met l yX7_drop wsX7_drop rmX7_drop (rPc dC dI h a cI cZ sz σ [.ref h]) (va_Qv Q (rAt dC dI (va_A (rCells h a cI cZ σ) sz) h a cI cZ) (va_A (rCells h a cI cZ σ) sz)) 0 0 (va_A (rCells h a cI cZ σ) sz) := by
  refine Met.ofW (cc := cX7_drop) (maxL := 1) (ret := none) (by decide) rfl ?_
  intro p e s m args below meth c s₁ B hml hv
  obtain ⟨hargs, hsz, hP, hK, hD0⟩ := hv
  have hts := atoms_spec (ws := wsX7_drop) B.pre
  have hown : s.vm.findClass RX7 = some m.cls := findClass_of_methodNamed B.named
  subst hsz
  subst hargs
  have hD := hD0.self (sz := s.heap.size)
  generalize hAe : va_A (rCells h a cI cZ σ) s.heap.size = A at hD ⊢
  have hA : ∀ q : Nat, s.heap.size ≤ q → A q := fun q h => by rw [← hAe]; exact Or.inr h
  have hl := lv_entry ([.ref h]) (n := 1) (Nat.le_of_ble_eq_true rfl)
  rw [lg_entry_eq]
  generalize (lg_sl ([.ref h]) ++ List.replicate (1 - (lg_sl ([.ref h])).length) Slot.unset).toArray = ls at hl ⊢
  have hl : lv_has ls 1 [(0, .ref h)] := hl
  unfold R_drop_w at hw
  exact rB_drop_0 ⟨B.exec, B.bytes, hml, hown, hts⟩ B.returns B.notSynchronized ⟨Nat.le_of_ble_eq_true rfl, Nat.le_of_ble_eq_true rfl⟩ hK hA σ s.heap [] ls (lv_sub hl [0] rfl) ⟨hP, hD, va_S.rf⟩ hw
def R_length_b0 (Q : Int32 → rS → Prop) (σ : rS) : Prop :=
 Q (σ.1 1) σ
set_option maxHeartbeats 4000000 in
set_option maxRecDepth 100000 in
theorem rB_length_0 {Q : Int32 → rS → Prop} (X : CallFix p m c cX7_length 1 s args wsX7_length RX7) (hr : meth.sig.returnType = (some .int)) (hlk : meth.locks = false) (hR : 0 ≤ R.frames ∧ 0 ≤ R.locals) (hK : va_K (dC, dI) vwCl [(cI, .int), (cZ, .boolean)] s) (hA : ∀ q, s.heap.size ≤ q → A q) (σ : rS) (H : Heap) (locs : List Loc) (ls : Array Slot) (hl : lv_has ls 1 [(0, .ref h)]) (hO : rO dC dI h a cI cZ A s.heap σ H locs) (hw : R_length_b0 Q σ) : W p l e R s m args below meth c H locs 0 0 (MQ below (va_Qi Q (rAt dC dI A h a cI cZ) A) args s 0 0 A) (F0 m 0 ls []) := by
  unfold R_length_b0 at hw
  refine lv_aload_n X.1 X.2.1 dX7_length_0 rfl (lv_at hl 0 rfl) ?_
  refine rf_held X hK hO dX7_length_1 ?_
  exact W.iret (v := (σ.1 1)) X.1 X.2.1 hr (fun t ht hW => ⟨⟨(σ.1 1), σ, rfl, hw, rO_end hO hK ht hW⟩, hO.2.2.F ht⟩) hO.2.2.2.2 dX7_length_4 hlk
def R_length_w (Q : Int32 → rS → Prop) (σ : rS) : Prop := R_length_b0 Q σ
abbrev rmX7_length : Room := { frames := 0, cells := 0, slots := 0, locals := 0 }
set_option maxHeartbeats 4000000 in
set_option maxRecDepth 100000 in
theorem rC_length (l : Launch) (dC : Nat → ClassId) (dI : Nat → Nat → Nat) (h : Nat) (a : Nat → Nat) (cI cZ : ClassId) (σ : rS) (sz : Nat) (Q : Int32 → rS → Prop) (hw : R_length_w Q σ) : Met l yX7_length wsX7_length rmX7_length (rPc dC dI h a cI cZ sz σ [.ref h]) (va_Qi Q (rAt dC dI (va_A (rCells h a cI cZ σ) sz) h a cI cZ) (va_A (rCells h a cI cZ σ) sz)) 0 0 (va_A (rCells h a cI cZ σ) sz) := by
  refine Met.ofW (cc := cX7_length) (maxL := 1) (ret := (some .int)) (by decide) rfl ?_
  intro p e s m args below meth c s₁ B hml hv
  obtain ⟨hargs, hsz, hP, hK, hD0⟩ := hv
  have hts := atoms_spec (ws := wsX7_length) B.pre
  have hown : s.vm.findClass RX7 = some m.cls := findClass_of_methodNamed B.named
  subst hsz
  subst hargs
  have hD := hD0.self (sz := s.heap.size)
  generalize hAe : va_A (rCells h a cI cZ σ) s.heap.size = A at hD ⊢
  have hA : ∀ q : Nat, s.heap.size ≤ q → A q := fun q h => by rw [← hAe]; exact Or.inr h
  have hl := lv_entry ([.ref h]) (n := 1) (Nat.le_of_ble_eq_true rfl)
  rw [lg_entry_eq]
  generalize (lg_sl ([.ref h]) ++ List.replicate (1 - (lg_sl ([.ref h])).length) Slot.unset).toArray = ls at hl ⊢
  have hl : lv_has ls 1 [(0, .ref h)] := hl
  unfold R_length_w at hw
  exact rB_length_0 ⟨B.exec, B.bytes, hml, hown, hts⟩ B.returns B.notSynchronized ⟨Nat.le_of_ble_eq_true rfl, Nat.le_of_ble_eq_true rfl⟩ hK hA σ s.heap [] ls (lv_sub hl [0] rfl) ⟨hP, hD, va_S.rf⟩ hw
def R_fail_b17 (Q : rS → Prop) (σ : rS) : Prop :=
 Q σ
set_option maxHeartbeats 4000000 in
set_option maxRecDepth 100000 in
theorem rB_fail_17 {Q : rS → Prop} (X : CallFix p m c cX7_fail 3 s args wsX7_fail RX7) (hr : meth.sig.returnType = none) (hlk : meth.locks = false) (hR : 0 ≤ R.frames ∧ 0 ≤ R.locals) (hK : va_K (dC, dI) vwCl [(cI, .int), (cZ, .boolean)] s) (hA : ∀ q, s.heap.size ≤ q → A q) (σ : rS) (H : Heap) (locs : List Loc) (ls : Array Slot) (hl : lv_has ls 3 [(0, .ref h)]) (hO : rO dC dI h a cI cZ A s.heap σ H locs) (hw : R_fail_b17 Q σ) : W p l e R s m args below meth c H locs 0 0 (MQ below (va_Qv Q (rAt dC dI A h a cI cZ) A) args s 0 0 A) (F0 m 17 ls []) := by
  unfold R_fail_b17 at hw
  exact W.vret X.1 X.2.1 hr (fun t ht hW => ⟨⟨σ, rfl, hw, rO_end hO hK ht hW⟩, hO.2.2.F ht⟩) hO.2.2.2.2 dX7_fail_17 hlk
def R_fail_b0 (Q : rS → Prop) (x1 : Int32) (x2 : Int32) (σ : rS) : Prop :=
 (¬ (σ.1 23) = 0 → R_fail_b17 Q σ) ∧ ((σ.1 23) = 0 → ∀ t9 : rS, t9 = rI σ 23 x1 → ∀ t14 : rS, t14 = rI t9 24 x2 → R_fail_b17 Q t14)
set_option maxHeartbeats 4000000 in
set_option maxRecDepth 100000 in
theorem rB_fail_0 {Q : rS → Prop} (X : CallFix p m c cX7_fail 3 s args wsX7_fail RX7) (hr : meth.sig.returnType = none) (hlk : meth.locks = false) (hR : 0 ≤ R.frames ∧ 0 ≤ R.locals) (hK : va_K (dC, dI) vwCl [(cI, .int), (cZ, .boolean)] s) (hA : ∀ q, s.heap.size ≤ q → A q) (x1 : Int32) (x2 : Int32) (σ : rS) (H : Heap) (locs : List Loc) (ls : Array Slot) (hl : lv_has ls 3 [(0, .ref h), (1, .int x1), (2, .int x2)]) (hO : rO dC dI h a cI cZ A s.heap σ H locs) (hw : R_fail_b0 Q x1 x2 σ) : W p l e R s m args below meth c H locs 0 0 (MQ below (va_Qv Q (rAt dC dI A h a cI cZ) A) args s 0 0 A) (F0 m 0 ls []) := by
  unfold R_fail_b0 at hw
  refine lv_aload_n X.1 X.2.1 dX7_fail_0 rfl (lv_at hl 0 rfl) ?_
  refine rf_reason X hK hO dX7_fail_1 ?_
  refine lv_if_ne (tgt := 17) X.1 X.2.1 dX7_fail_4 rfl (fun hc9 => ?_) (fun hc9 => ?_)
  · have hw := hw.1 hc9
    exact rB_fail_17 X hr hlk hR hK hA σ H locs ls (lv_sub hl [0] rfl) hO hw
  · have hw := hw.2 hc9
    refine lv_aload_n X.1 X.2.1 dX7_fail_7 rfl (lv_at hl 0 rfl) ?_
    refine lv_iload_n X.1 X.2.1 dX7_fail_8 rfl (lv_at hl 1 rfl) ?_
    refine rp_reason X hK hO dX7_fail_9 (fun H locs hO => ?_)
    obtain ⟨t9, e9⟩ : ∃ z, z = rI σ 23 x1 := ⟨_, rfl⟩
    have hw := hw t9 e9
    rw [← e9] at hO
    refine lv_aload_n X.1 X.2.1 dX7_fail_12 rfl (lv_at hl 0 rfl) ?_
    refine lv_iload_n X.1 X.2.1 dX7_fail_13 rfl (lv_at hl 2 rfl) ?_
    refine rp_spot X hK hO dX7_fail_14 (fun H locs hO => ?_)
    obtain ⟨t14, e14⟩ : ∃ z, z = rI t9 24 x2 := ⟨_, rfl⟩
    have hw := hw t14 e14
    rw [← e14] at hO
    exact rB_fail_17 X hr hlk hR hK hA t14 H locs ls (lv_sub hl [0] rfl) hO hw
def R_fail_w (Q : rS → Prop) (x1 : Int32) (x2 : Int32) (σ : rS) : Prop := R_fail_b0 Q x1 x2 σ
abbrev rmX7_fail : Room := { frames := 0, cells := 0, slots := 0, locals := 0 }
set_option maxHeartbeats 4000000 in
set_option maxRecDepth 100000 in
theorem rC_fail (l : Launch) (dC : Nat → ClassId) (dI : Nat → Nat → Nat) (h : Nat) (a : Nat → Nat) (cI cZ : ClassId) (σ : rS) (sz : Nat) (x1 : Int32) (x2 : Int32) (Q : rS → Prop) (hw : R_fail_w Q x1 x2 σ) : Met l yX7_fail wsX7_fail rmX7_fail (rPc dC dI h a cI cZ sz σ [.ref h, .int x1, .int x2]) (va_Qv Q (rAt dC dI (va_A (rCells h a cI cZ σ) sz) h a cI cZ) (va_A (rCells h a cI cZ σ) sz)) 0 0 (va_A (rCells h a cI cZ σ) sz) := by
  refine Met.ofW (cc := cX7_fail) (maxL := 3) (ret := none) (by decide) rfl ?_
  intro p e s m args below meth c s₁ B hml hv
  obtain ⟨hargs, hsz, hP, hK, hD0⟩ := hv
  have hts := atoms_spec (ws := wsX7_fail) B.pre
  have hown : s.vm.findClass RX7 = some m.cls := findClass_of_methodNamed B.named
  subst hsz
  subst hargs
  have hD := hD0.self (sz := s.heap.size)
  generalize hAe : va_A (rCells h a cI cZ σ) s.heap.size = A at hD ⊢
  have hA : ∀ q : Nat, s.heap.size ≤ q → A q := fun q h => by rw [← hAe]; exact Or.inr h
  have hl := lv_entry ([.ref h, .int x1, .int x2]) (n := 3) (Nat.le_of_ble_eq_true rfl)
  rw [lg_entry_eq]
  generalize (lg_sl ([.ref h, .int x1, .int x2]) ++ List.replicate (3 - (lg_sl ([.ref h, .int x1, .int x2])).length) Slot.unset).toArray = ls at hl ⊢
  have hl : lv_has ls 3 [(0, .ref h), (1, .int x1), (2, .int x2)] := hl
  unfold R_fail_w at hw
  exact rB_fail_0 ⟨B.exec, B.bytes, hml, hown, hts⟩ B.returns B.notSynchronized ⟨Nat.le_of_ble_eq_true rfl, Nat.le_of_ble_eq_true rfl⟩ hK hA x1 x2 σ s.heap [] ls (lv_sub hl [0, 1, 2] rfl) ⟨hP, hD, va_S.rf⟩ hw
def R_take_b0 (Q : Int32 → rS → Prop) (σ : rS) : Prop :=
 ((σ.1 23) = 0 → ((σ.1 21) < (σ.1 20) → vp_in ((σ.1 19) + (σ.1 21)) 1920 ∧ ∀ v45 : Int32, v45 = (σ.2 2 ((σ.1 19) + (σ.1 21)).toNatClampNeg) → ∀ t53 : rS, t53 = rI σ 21 ((σ.1 21) + (1 : Int32)) → Q v45 t53) ∧ (¬ (σ.1 21) < (σ.1 20) → R_fail_w (fun t26 => Q (0 : Int32) t26) (1 : Int32) (σ.1 20) σ)) ∧ (¬ (σ.1 23) = 0 → Q (0 : Int32) σ)
set_option maxHeartbeats 4000000 in
set_option maxRecDepth 100000 in
theorem rB_take_0 {Q : Int32 → rS → Prop} (X : CallFix p m c cX7_take 2 s args wsX7_take RX7) (hr : meth.sig.returnType = (some .int)) (hlk : meth.locks = false) (hR : 1 ≤ R.frames ∧ 22 ≤ R.locals) (hK : va_K (dC, dI) vwCl [(cI, .int), (cZ, .boolean)] s) (hA : ∀ q, s.heap.size ≤ q → A q) (σ : rS) (H : Heap) (locs : List Loc) (ls : Array Slot) (hl : lv_has ls 2 [(0, .ref h)]) (hO : rO dC dI h a cI cZ A s.heap σ H locs) (hw : R_take_b0 Q σ) : W p l e R s m args below meth c H locs 0 0 (MQ below (va_Qi Q (rAt dC dI A h a cI cZ) A) args s 0 0 A) (F0 m 0 ls []) := by
  unfold R_take_b0 at hw
  refine lv_aload_n X.1 X.2.1 dX7_take_0 rfl (lv_at hl 0 rfl) ?_
  refine rf_reason X hK hO dX7_take_1 ?_
  refine lv_if_eq (tgt := 9) X.1 X.2.1 dX7_take_4 rfl (fun hc9 => ?_) (fun hc9 => ?_)
  · have hw := hw.1 hc9
    refine lv_aload_n X.1 X.2.1 dX7_take_9 rfl (lv_at hl 0 rfl) ?_
    refine rf_at X hK hO dX7_take_10 ?_
    refine lv_aload_n X.1 X.2.1 dX7_take_13 rfl (lv_at hl 0 rfl) ?_
    refine rf_end X hK hO dX7_take_14 ?_
    refine lv_icmp_lt (tgt := 31) X.1 X.2.1 dX7_take_17 rfl (fun hc9 => ?_) (fun hc9 => ?_)
    · have hw := hw.1 hc9
      refine lv_aload_n X.1 X.2.1 dX7_take_31 rfl (lv_at hl 0 rfl) ?_
      refine rf_bytes X hK hO dX7_take_32 ?_
      refine lv_aload_n X.1 X.2.1 dX7_take_35 rfl (lv_at hl 0 rfl) ?_
      refine rf_base X hK hO dX7_take_36 ?_
      refine lv_aload_n X.1 X.2.1 dX7_take_39 rfl (lv_at hl 0 rfl) ?_
      refine rf_at X hK hO dX7_take_40 ?_
      refine lv_iadd X.1 X.2.1 dX7_take_43 ?_
      obtain ⟨g44, hw⟩ := hw
      refine ra_bytes X.1 X.2.1 hK hO g44 dX7_take_44 ?_
      refine lv_topi (fun v45 e45 => ?_)
      have hw := hw v45 e45
      refine lv_istore_n (lv' := [(1, .int v45), (0, .ref h)]) X.1 X.2.1 dX7_take_45 rfl hl (by decide) rfl (fun ls hl => ?_)
      refine lv_aload_n X.1 X.2.1 dX7_take_46 rfl (lv_at hl 1 rfl) ?_
      refine lv_dup X.1 X.2.1 dX7_take_47 rfl ?_
      refine rf_at X hK hO dX7_take_48 ?_
      refine lv_iconst (v := 1) X.1 X.2.1 dX7_take_51 (by decide) ?_
      refine lv_iadd X.1 X.2.1 dX7_take_52 ?_
      refine rp_at X hK hO dX7_take_53 (fun H locs hO => ?_)
      obtain ⟨t53, e53⟩ : ∃ z, z = rI σ 21 ((σ.1 21) + (1 : Int32)) := ⟨_, rfl⟩
      have hw := hw t53 e53
      rw [← e53] at hO
      refine lv_iload_n X.1 X.2.1 dX7_take_56 rfl (lv_at hl 0 rfl) ?_
      exact W.iret (v := v45) X.1 X.2.1 hr (fun t ht hW => ⟨⟨v45, t53, rfl, hw, rO_end hO hK ht hW⟩, hO.2.2.F ht⟩) hO.2.2.2.2 dX7_take_57 hlk
    · have hw := hw.2 hc9
      refine lv_aload_n X.1 X.2.1 dX7_take_20 rfl (lv_at hl 0 rfl) ?_
      refine lv_iconst (v := 1) X.1 X.2.1 dX7_take_21 (by decide) ?_
      refine lv_aload_n X.1 X.2.1 dX7_take_22 rfl (lv_at hl 0 rfl) ?_
      refine rf_end X hK hO dX7_take_23 ?_
      refine r_callv (rest := []) (As := [.int (1 : Int32), .int (σ.1 20)]) X (rC_fail l dC dI h a cI cZ σ H.size (1 : Int32) (σ.1 20) _ hw) (cwV 2 X.2.2.2.2 gX7_fail rfl rfl rfl hdX7_fail ⟨Nat.le_trans (by decide) hR.1, Nat.le_trans (by decide) hR.2⟩) hK hA hO rfl hl.1 rfl (Nat.le_of_ble_eq_true rfl) dX7_take_26 (fun t26 H locs hO hw => ?_)
      refine lv_iconst (v := 0) X.1 X.2.1 dX7_take_29 (by decide) ?_
      exact W.iret (v := (0 : Int32)) X.1 X.2.1 hr (fun t ht hW => ⟨⟨(0 : Int32), t26, rfl, hw, rO_end hO hK ht hW⟩, hO.2.2.F ht⟩) hO.2.2.2.2 dX7_take_30 hlk
  · have hw := hw.2 hc9
    refine lv_iconst (v := 0) X.1 X.2.1 dX7_take_7 (by decide) ?_
    exact W.iret (v := (0 : Int32)) X.1 X.2.1 hr (fun t ht hW => ⟨⟨(0 : Int32), σ, rfl, hw, rO_end hO hK ht hW⟩, hO.2.2.F ht⟩) hO.2.2.2.2 dX7_take_8 hlk
def R_take_w (Q : Int32 → rS → Prop) (σ : rS) : Prop := R_take_b0 Q σ
abbrev rmX7_take : Room := { frames := 1, cells := 0, slots := 0, locals := 22 }
set_option maxHeartbeats 4000000 in
set_option maxRecDepth 100000 in
theorem rC_take (l : Launch) (dC : Nat → ClassId) (dI : Nat → Nat → Nat) (h : Nat) (a : Nat → Nat) (cI cZ : ClassId) (σ : rS) (sz : Nat) (Q : Int32 → rS → Prop) (hw : R_take_w Q σ) : Met l yX7_take wsX7_take rmX7_take (rPc dC dI h a cI cZ sz σ [.ref h]) (va_Qi Q (rAt dC dI (va_A (rCells h a cI cZ σ) sz) h a cI cZ) (va_A (rCells h a cI cZ σ) sz)) 0 0 (va_A (rCells h a cI cZ σ) sz) := by
  refine Met.ofW (cc := cX7_take) (maxL := 2) (ret := (some .int)) (by decide) rfl ?_
  intro p e s m args below meth c s₁ B hml hv
  obtain ⟨hargs, hsz, hP, hK, hD0⟩ := hv
  have hts := atoms_spec (ws := wsX7_take) B.pre
  have hown : s.vm.findClass RX7 = some m.cls := findClass_of_methodNamed B.named
  subst hsz
  subst hargs
  have hD := hD0.self (sz := s.heap.size)
  generalize hAe : va_A (rCells h a cI cZ σ) s.heap.size = A at hD ⊢
  have hA : ∀ q : Nat, s.heap.size ≤ q → A q := fun q h => by rw [← hAe]; exact Or.inr h
  have hl := lv_entry ([.ref h]) (n := 2) (Nat.le_of_ble_eq_true rfl)
  rw [lg_entry_eq]
  generalize (lg_sl ([.ref h]) ++ List.replicate (2 - (lg_sl ([.ref h])).length) Slot.unset).toArray = ls at hl ⊢
  have hl : lv_has ls 2 [(0, .ref h)] := hl
  unfold R_take_w at hw
  exact rB_take_0 ⟨B.exec, B.bytes, hml, hown, hts⟩ B.returns B.notSynchronized ⟨Nat.le_of_ble_eq_true rfl, Nat.le_of_ble_eq_true rfl⟩ hK hA σ s.heap [] ls (lv_sub hl [0] rfl) ⟨hP, hD, va_S.rf⟩ hw
def R_many_b33 (Q : Int32 → rS → Prop) (y0 : Int32) (σ : rS) : Prop :=
 Q y0 σ
set_option maxHeartbeats 4000000 in
set_option maxRecDepth 100000 in
theorem rB_many_33 {Q : Int32 → rS → Prop} (X : CallFix p m c cX7_many 4 s args wsX7_many RX7) (hr : meth.sig.returnType = (some .int)) (hlk : meth.locks = false) (hR : 2 ≤ R.frames ∧ 43 ≤ R.locals) (hK : va_K (dC, dI) vwCl [(cI, .int), (cZ, .boolean)] s) (hA : ∀ q, s.heap.size ≤ q → A q) (y0 : Int32) (σ : rS) (H : Heap) (locs : List Loc) (ls : Array Slot) (hl : lv_has ls 4 [(0, .ref h)]) (hO : rO dC dI h a cI cZ A s.heap σ H locs) (hw : R_many_b33 Q y0 σ) : W p l e R s m args below meth c H locs 0 0 (MQ below (va_Qi Q (rAt dC dI A h a cI cZ) A) args s 0 0 A) (F0 m 33 ls [.int y0]) := by
  unfold R_many_b33 at hw
  exact W.iret (v := y0) X.1 X.2.1 hr (fun t ht hW => ⟨⟨y0, σ, rfl, hw, rO_end hO hK ht hW⟩, hO.2.2.F ht⟩) hO.2.2.2.2 dX7_many_33 hlk
def R_many_b21 (Q : Int32 → rS → Prop) (x3 : Int32) (σ : rS) : Prop :=
 (¬ (σ.1 23) = 0 → R_many_b33 Q (0 : Int32) σ) ∧ ((σ.1 23) = 0 → R_many_b33 Q x3 σ)
set_option maxHeartbeats 4000000 in
set_option maxRecDepth 100000 in
theorem rB_many_21 {Q : Int32 → rS → Prop} (X : CallFix p m c cX7_many 4 s args wsX7_many RX7) (hr : meth.sig.returnType = (some .int)) (hlk : meth.locks = false) (hR : 2 ≤ R.frames ∧ 43 ≤ R.locals) (hK : va_K (dC, dI) vwCl [(cI, .int), (cZ, .boolean)] s) (hA : ∀ q, s.heap.size ≤ q → A q) (x3 : Int32) (σ : rS) (H : Heap) (locs : List Loc) (ls : Array Slot) (hl : lv_has ls 4 [(0, .ref h), (3, .int x3)]) (hO : rO dC dI h a cI cZ A s.heap σ H locs) (hw : R_many_b21 Q x3 σ) : W p l e R s m args below meth c H locs 0 0 (MQ below (va_Qi Q (rAt dC dI A h a cI cZ) A) args s 0 0 A) (F0 m 21 ls []) := by
  unfold R_many_b21 at hw
  refine lv_aload_n X.1 X.2.1 dX7_many_21 rfl (lv_at hl 0 rfl) ?_
  refine rf_reason X hK hO dX7_many_22 ?_
  refine lv_if_ne (tgt := 32) X.1 X.2.1 dX7_many_25 rfl (fun hc9 => ?_) (fun hc9 => ?_)
  · have hw := hw.1 hc9
    refine lv_iconst (v := 0) X.1 X.2.1 dX7_many_32 (by decide) ?_
    exact rB_many_33 X hr hlk hR hK hA (0 : Int32) σ H locs ls (lv_sub hl [0] rfl) hO hw
  · have hw := hw.2 hc9
    refine lv_iload_n X.1 X.2.1 dX7_many_28 rfl (lv_at hl 1 rfl) ?_
    refine lv_goto (tgt := 33) X.1 X.2.1 dX7_many_29 rfl ?_
    exact rB_many_33 X hr hlk hR hK hA x3 σ H locs ls (lv_sub hl [0] rfl) hO hw
def R_many_b0 (Q : Int32 → rS → Prop) (x1 : Int32) (σ : rS) : Prop :=
 ∀ v4 : Int32, v4 = (σ.1 21) → R_take_w (fun r6 t6 => (r6 ≤ x1 → R_many_b21 Q r6 t6) ∧ (¬ r6 ≤ x1 → R_fail_w (fun t18 => R_many_b21 Q r6 t18) (4 : Int32) v4 t6)) σ
set_option maxHeartbeats 4000000 in
set_option maxRecDepth 100000 in
theorem rB_many_0 {Q : Int32 → rS → Prop} (X : CallFix p m c cX7_many 4 s args wsX7_many RX7) (hr : meth.sig.returnType = (some .int)) (hlk : meth.locks = false) (hR : 2 ≤ R.frames ∧ 43 ≤ R.locals) (hK : va_K (dC, dI) vwCl [(cI, .int), (cZ, .boolean)] s) (hA : ∀ q, s.heap.size ≤ q → A q) (x1 : Int32) (σ : rS) (H : Heap) (locs : List Loc) (ls : Array Slot) (hl : lv_has ls 4 [(0, .ref h), (1, .int x1)]) (hO : rO dC dI h a cI cZ A s.heap σ H locs) (hw : R_many_b0 Q x1 σ) : W p l e R s m args below meth c H locs 0 0 (MQ below (va_Qi Q (rAt dC dI A h a cI cZ) A) args s 0 0 A) (F0 m 0 ls []) := by
  unfold R_many_b0 at hw
  refine lv_aload_n X.1 X.2.1 dX7_many_0 rfl (lv_at hl 0 rfl) ?_
  refine rf_at X hK hO dX7_many_1 ?_
  refine lv_topi (fun v4 e4 => ?_)
  have hw := hw v4 e4
  refine lv_istore_n (lv' := [(2, .int v4), (0, .ref h), (1, .int x1)]) X.1 X.2.1 dX7_many_4 rfl hl (by decide) rfl (fun ls hl => ?_)
  refine lv_aload_n X.1 X.2.1 dX7_many_5 rfl (lv_at hl 1 rfl) ?_
  refine r_calli (rest := []) (As := []) X (rC_take l dC dI h a cI cZ σ H.size _ hw) (cwV 0 X.2.2.2.2 gX7_take rfl rfl rfl hdX7_take ⟨Nat.le_trans (by decide) hR.1, Nat.le_trans (by decide) hR.2⟩) hK hA hO rfl hl.1 rfl (Nat.le_of_ble_eq_true rfl) dX7_many_6 (fun r6 t6 H locs hO hw => ?_)
  refine lv_istore_n (lv' := [(3, .int r6), (2, .int v4), (0, .ref h), (1, .int x1)]) X.1 X.2.1 dX7_many_9 rfl hl (by decide) rfl (fun ls hl => ?_)
  refine lv_iload_n X.1 X.2.1 dX7_many_10 rfl (lv_at hl 0 rfl) ?_
  refine lv_iload_n X.1 X.2.1 dX7_many_11 rfl (lv_at hl 3 rfl) ?_
  refine lv_icmp_le (tgt := 21) X.1 X.2.1 dX7_many_12 rfl (fun hc9 => ?_) (fun hc9 => ?_)
  · have hw := hw.1 hc9
    exact rB_many_21 X hr hlk hR hK hA r6 t6 H locs ls (lv_sub hl [2, 0] rfl) hO hw
  · have hw := hw.2 hc9
    refine lv_aload_n X.1 X.2.1 dX7_many_15 rfl (lv_at hl 2 rfl) ?_
    refine lv_iconst (v := 4) X.1 X.2.1 dX7_many_16 (by decide) ?_
    refine lv_iload_n X.1 X.2.1 dX7_many_17 rfl (lv_at hl 1 rfl) ?_
    refine r_callv (rest := []) (As := [.int (4 : Int32), .int v4]) X (rC_fail l dC dI h a cI cZ t6 H.size (4 : Int32) v4 _ hw) (cwV 2 X.2.2.2.2 gX7_fail rfl rfl rfl hdX7_fail ⟨Nat.le_trans (by decide) hR.1, Nat.le_trans (by decide) hR.2⟩) hK hA hO rfl hl.1 rfl (Nat.le_of_ble_eq_true rfl) dX7_many_18 (fun t18 H locs hO hw => ?_)
    exact rB_many_21 X hr hlk hR hK hA r6 t18 H locs ls (lv_sub hl [2, 0] rfl) hO hw
def R_many_w (Q : Int32 → rS → Prop) (x1 : Int32) (σ : rS) : Prop := R_many_b0 Q x1 σ
abbrev rmX7_many : Room := { frames := 2, cells := 0, slots := 0, locals := 43 }
set_option maxHeartbeats 4000000 in
set_option maxRecDepth 100000 in
theorem rC_many (l : Launch) (dC : Nat → ClassId) (dI : Nat → Nat → Nat) (h : Nat) (a : Nat → Nat) (cI cZ : ClassId) (σ : rS) (sz : Nat) (x1 : Int32) (Q : Int32 → rS → Prop) (hw : R_many_w Q x1 σ) : Met l yX7_many wsX7_many rmX7_many (rPc dC dI h a cI cZ sz σ [.ref h, .int x1]) (va_Qi Q (rAt dC dI (va_A (rCells h a cI cZ σ) sz) h a cI cZ) (va_A (rCells h a cI cZ σ) sz)) 0 0 (va_A (rCells h a cI cZ σ) sz) := by
  refine Met.ofW (cc := cX7_many) (maxL := 4) (ret := (some .int)) (by decide) rfl ?_
  intro p e s m args below meth c s₁ B hml hv
  obtain ⟨hargs, hsz, hP, hK, hD0⟩ := hv
  have hts := atoms_spec (ws := wsX7_many) B.pre
  have hown : s.vm.findClass RX7 = some m.cls := findClass_of_methodNamed B.named
  subst hsz
  subst hargs
  have hD := hD0.self (sz := s.heap.size)
  generalize hAe : va_A (rCells h a cI cZ σ) s.heap.size = A at hD ⊢
  have hA : ∀ q : Nat, s.heap.size ≤ q → A q := fun q h => by rw [← hAe]; exact Or.inr h
  have hl := lv_entry ([.ref h, .int x1]) (n := 4) (Nat.le_of_ble_eq_true rfl)
  rw [lg_entry_eq]
  generalize (lg_sl ([.ref h, .int x1]) ++ List.replicate (4 - (lg_sl ([.ref h, .int x1])).length) Slot.unset).toArray = ls at hl ⊢
  have hl : lv_has ls 4 [(0, .ref h), (1, .int x1)] := hl
  unfold R_many_w at hw
  exact rB_many_0 ⟨B.exec, B.bytes, hml, hown, hts⟩ B.returns B.notSynchronized ⟨Nat.le_of_ble_eq_true rfl, Nat.le_of_ble_eq_true rfl⟩ hK hA x1 σ s.heap [] ls (lv_sub hl [0, 1] rfl) ⟨hP, hD, va_S.rf⟩ hw
def R_constant_b55 (Q : Int32 → rS → Prop) (x3 : Int32) (σ : rS) : Prop :=
 Q x3 σ
set_option maxHeartbeats 4000000 in
set_option maxRecDepth 100000 in
theorem rB_constant_55 {Q : Int32 → rS → Prop} (X : CallFix p m c cX7_constant 4 s args wsX7_constant RX7) (hr : meth.sig.returnType = (some .int)) (hlk : meth.locks = false) (hR : 2 ≤ R.frames ∧ 43 ≤ R.locals) (hK : va_K (dC, dI) vwCl [(cI, .int), (cZ, .boolean)] s) (hA : ∀ q, s.heap.size ≤ q → A q) (x3 : Int32) (σ : rS) (H : Heap) (locs : List Loc) (ls : Array Slot) (hl : lv_has ls 4 [(0, .ref h), (3, .int x3)]) (hO : rO dC dI h a cI cZ A s.heap σ H locs) (hw : R_constant_b55 Q x3 σ) : W p l e R s m args below meth c H locs 0 0 (MQ below (va_Qi Q (rAt dC dI A h a cI cZ) A) args s 0 0 A) (F0 m 55 ls []) := by
  unfold R_constant_b55 at hw
  refine lv_iload_n X.1 X.2.1 dX7_constant_55 rfl (lv_at hl 1 rfl) ?_
  exact W.iret (v := x3) X.1 X.2.1 hr (fun t ht hW => ⟨⟨x3, σ, rfl, hw, rO_end hO hK ht hW⟩, hO.2.2.F ht⟩) hO.2.2.2.2 dX7_constant_56 hlk
def R_constant_b48 (Q : Int32 → rS → Prop) (x2 : Int32) (x3 : Int32) (σ : rS) : Prop :=
 R_fail_w (fun t52 => R_constant_b55 Q x3 t52) (6 : Int32) x2 σ
set_option maxHeartbeats 4000000 in
set_option maxRecDepth 100000 in
theorem rB_constant_48 {Q : Int32 → rS → Prop} (X : CallFix p m c cX7_constant 4 s args wsX7_constant RX7) (hr : meth.sig.returnType = (some .int)) (hlk : meth.locks = false) (hR : 2 ≤ R.frames ∧ 43 ≤ R.locals) (hK : va_K (dC, dI) vwCl [(cI, .int), (cZ, .boolean)] s) (hA : ∀ q, s.heap.size ≤ q → A q) (x2 : Int32) (x3 : Int32) (σ : rS) (H : Heap) (locs : List Loc) (ls : Array Slot) (hl : lv_has ls 4 [(0, .ref h), (2, .int x2), (3, .int x3)]) (hO : rO dC dI h a cI cZ A s.heap σ H locs) (hw : R_constant_b48 Q x2 x3 σ) : W p l e R s m args below meth c H locs 0 0 (MQ below (va_Qi Q (rAt dC dI A h a cI cZ) A) args s 0 0 A) (F0 m 48 ls []) := by
  unfold R_constant_b48 at hw
  refine lv_aload_n X.1 X.2.1 dX7_constant_48 rfl (lv_at hl 0 rfl) ?_
  refine lv_bipush (v := 6) X.1 X.2.1 dX7_constant_49 (by decide) ?_
  refine lv_iload_n X.1 X.2.1 dX7_constant_51 rfl (lv_at hl 1 rfl) ?_
  refine r_callv (rest := []) (As := [.int (6 : Int32), .int x2]) X (rC_fail l dC dI h a cI cZ σ H.size (6 : Int32) x2 _ hw) (cwV 2 X.2.2.2.2 gX7_fail rfl rfl rfl hdX7_fail ⟨Nat.le_trans (by decide) hR.1, Nat.le_trans (by decide) hR.2⟩) hK hA hO rfl hl.1 rfl (Nat.le_of_ble_eq_true rfl) dX7_constant_52 (fun t52 H locs hO hw => ?_)
  exact rB_constant_55 X hr hlk hR hK hA x3 t52 H locs ls (lv_sub hl [0, 2] rfl) hO hw
def R_constant_b0 (Q : Int32 → rS → Prop) (x1 : Int32) (σ : rS) : Prop :=
 ∀ v4 : Int32, v4 = (σ.1 21) → R_take_w (fun r6 t6 => (¬ (t6.1 23) = 0 → R_constant_b55 Q r6 t6) ∧ ((t6.1 23) = 0 → (r6 < (1 : Int32) → R_constant_b48 Q v4 r6 t6) ∧ (¬ r6 < (1 : Int32) → ((t6.1 22) < r6 → R_constant_b48 Q v4 r6 t6) ∧ (¬ (t6.1 22) < r6 → vp_in (((13 : Int32) * (t6.1 18)) + r6) 208 ∧ ((t6.2 6 (((13 : Int32) * (t6.1 18)) + r6).toNatClampNeg) = x1 → R_constant_b55 Q r6 t6) ∧ (¬ (t6.2 6 (((13 : Int32) * (t6.1 18)) + r6).toNatClampNeg) = x1 → R_constant_b48 Q v4 r6 t6))))) σ
set_option maxHeartbeats 4000000 in
set_option maxRecDepth 100000 in
theorem rB_constant_0 {Q : Int32 → rS → Prop} (X : CallFix p m c cX7_constant 4 s args wsX7_constant RX7) (hr : meth.sig.returnType = (some .int)) (hlk : meth.locks = false) (hR : 2 ≤ R.frames ∧ 43 ≤ R.locals) (hK : va_K (dC, dI) vwCl [(cI, .int), (cZ, .boolean)] s) (hA : ∀ q, s.heap.size ≤ q → A q) (x1 : Int32) (σ : rS) (H : Heap) (locs : List Loc) (ls : Array Slot) (hl : lv_has ls 4 [(0, .ref h), (1, .int x1)]) (hO : rO dC dI h a cI cZ A s.heap σ H locs) (hw : R_constant_b0 Q x1 σ) : W p l e R s m args below meth c H locs 0 0 (MQ below (va_Qi Q (rAt dC dI A h a cI cZ) A) args s 0 0 A) (F0 m 0 ls []) := by
  unfold R_constant_b0 at hw
  refine lv_aload_n X.1 X.2.1 dX7_constant_0 rfl (lv_at hl 0 rfl) ?_
  refine rf_at X hK hO dX7_constant_1 ?_
  refine lv_topi (fun v4 e4 => ?_)
  have hw := hw v4 e4
  refine lv_istore_n (lv' := [(2, .int v4), (0, .ref h), (1, .int x1)]) X.1 X.2.1 dX7_constant_4 rfl hl (by decide) rfl (fun ls hl => ?_)
  refine lv_aload_n X.1 X.2.1 dX7_constant_5 rfl (lv_at hl 1 rfl) ?_
  refine r_calli (rest := []) (As := []) X (rC_take l dC dI h a cI cZ σ H.size _ hw) (cwV 0 X.2.2.2.2 gX7_take rfl rfl rfl hdX7_take ⟨Nat.le_trans (by decide) hR.1, Nat.le_trans (by decide) hR.2⟩) hK hA hO rfl hl.1 rfl (Nat.le_of_ble_eq_true rfl) dX7_constant_6 (fun r6 t6 H locs hO hw => ?_)
  refine lv_istore_n (lv' := [(3, .int r6), (2, .int v4), (0, .ref h), (1, .int x1)]) X.1 X.2.1 dX7_constant_9 rfl hl (by decide) rfl (fun ls hl => ?_)
  refine lv_aload_n X.1 X.2.1 dX7_constant_10 rfl (lv_at hl 2 rfl) ?_
  refine rf_reason X hK hO dX7_constant_11 ?_
  refine lv_if_ne (tgt := 55) X.1 X.2.1 dX7_constant_14 rfl (fun hc9 => ?_) (fun hc9 => ?_)
  · have hw := hw.1 hc9
    exact rB_constant_55 X hr hlk hR hK hA r6 t6 H locs ls (lv_sub hl [2, 0] rfl) hO hw
  · have hw := hw.2 hc9
    refine lv_iload_n X.1 X.2.1 dX7_constant_17 rfl (lv_at hl 0 rfl) ?_
    refine lv_iconst (v := 1) X.1 X.2.1 dX7_constant_18 (by decide) ?_
    refine lv_icmp_lt (tgt := 48) X.1 X.2.1 dX7_constant_19 rfl (fun hc9 => ?_) (fun hc9 => ?_)
    · have hw := hw.1 hc9
      exact rB_constant_48 X hr hlk hR hK hA v4 r6 t6 H locs ls (lv_sub hl [2, 1, 0] rfl) hO hw
    · have hw := hw.2 hc9
      refine lv_iload_n X.1 X.2.1 dX7_constant_22 rfl (lv_at hl 0 rfl) ?_
      refine lv_aload_n X.1 X.2.1 dX7_constant_23 rfl (lv_at hl 2 rfl) ?_
      refine rf_constants X hK hO dX7_constant_24 ?_
      refine lv_icmp_gt (tgt := 48) X.1 X.2.1 dX7_constant_27 rfl (fun hc9 => ?_) (fun hc9 => ?_)
      · have hw := hw.1 hc9
        exact rB_constant_48 X hr hlk hR hK hA v4 r6 t6 H locs ls (lv_sub hl [2, 1, 0] rfl) hO hw
      · have hw := hw.2 hc9
        refine lv_aload_n X.1 X.2.1 dX7_constant_30 rfl (lv_at hl 2 rfl) ?_
        refine rf_sort X hK hO dX7_constant_31 ?_
        refine lv_bipush (v := 13) X.1 X.2.1 dX7_constant_34 (by decide) ?_
        refine lv_aload_n X.1 X.2.1 dX7_constant_36 rfl (lv_at hl 2 rfl) ?_
        refine rf_now X hK hO dX7_constant_37 ?_
        refine lv_imul X.1 X.2.1 dX7_constant_40 ?_
        refine lv_iload_n X.1 X.2.1 dX7_constant_41 rfl (lv_at hl 0 rfl) ?_
        refine lv_iadd X.1 X.2.1 dX7_constant_42 ?_
        obtain ⟨g43, hw⟩ := hw
        refine ra_sort X.1 X.2.1 hK hO g43 dX7_constant_43 ?_
        refine lv_iload_n X.1 X.2.1 dX7_constant_44 rfl (lv_at hl 3 rfl) ?_
        refine lv_icmp_eq (tgt := 55) X.1 X.2.1 dX7_constant_45 rfl (fun hc9 => ?_) (fun hc9 => ?_)
        · have hw := hw.1 hc9
          exact rB_constant_55 X hr hlk hR hK hA r6 t6 H locs ls (lv_sub hl [2, 0] rfl) hO hw
        · have hw := hw.2 hc9
          exact rB_constant_48 X hr hlk hR hK hA v4 r6 t6 H locs ls (lv_sub hl [2, 1, 0] rfl) hO hw
def R_constant_w (Q : Int32 → rS → Prop) (x1 : Int32) (σ : rS) : Prop := R_constant_b0 Q x1 σ
abbrev rmX7_constant : Room := { frames := 2, cells := 0, slots := 0, locals := 43 }
set_option maxHeartbeats 4000000 in
set_option maxRecDepth 100000 in
theorem rC_constant (l : Launch) (dC : Nat → ClassId) (dI : Nat → Nat → Nat) (h : Nat) (a : Nat → Nat) (cI cZ : ClassId) (σ : rS) (sz : Nat) (x1 : Int32) (Q : Int32 → rS → Prop) (hw : R_constant_w Q x1 σ) : Met l yX7_constant wsX7_constant rmX7_constant (rPc dC dI h a cI cZ sz σ [.ref h, .int x1]) (va_Qi Q (rAt dC dI (va_A (rCells h a cI cZ σ) sz) h a cI cZ) (va_A (rCells h a cI cZ σ) sz)) 0 0 (va_A (rCells h a cI cZ σ) sz) := by
  refine Met.ofW (cc := cX7_constant) (maxL := 4) (ret := (some .int)) (by decide) rfl ?_
  intro p e s m args below meth c s₁ B hml hv
  obtain ⟨hargs, hsz, hP, hK, hD0⟩ := hv
  have hts := atoms_spec (ws := wsX7_constant) B.pre
  have hown : s.vm.findClass RX7 = some m.cls := findClass_of_methodNamed B.named
  subst hsz
  subst hargs
  have hD := hD0.self (sz := s.heap.size)
  generalize hAe : va_A (rCells h a cI cZ σ) s.heap.size = A at hD ⊢
  have hA : ∀ q : Nat, s.heap.size ≤ q → A q := fun q h => by rw [← hAe]; exact Or.inr h
  have hl := lv_entry ([.ref h, .int x1]) (n := 4) (Nat.le_of_ble_eq_true rfl)
  rw [lg_entry_eq]
  generalize (lg_sl ([.ref h, .int x1]) ++ List.replicate (4 - (lg_sl ([.ref h, .int x1])).length) Slot.unset).toArray = ls at hl ⊢
  have hl : lv_has ls 4 [(0, .ref h), (1, .int x1)] := hl
  unfold R_constant_w at hw
  exact rB_constant_0 ⟨B.exec, B.bytes, hml, hown, hts⟩ B.returns B.notSynchronized ⟨Nat.le_of_ble_eq_true rfl, Nat.le_of_ble_eq_true rfl⟩ hK hA x1 σ s.heap [] ls (lv_sub hl [0, 1] rfl) ⟨hP, hD, va_S.rf⟩ hw
def R_classOrNone_b55 (Q : Int32 → rS → Prop) (x2 : Int32) (σ : rS) : Prop :=
 Q x2 σ
set_option maxHeartbeats 4000000 in
set_option maxRecDepth 100000 in
theorem rB_classOrNone_55 {Q : Int32 → rS → Prop} (X : CallFix p m c cX7_classOrNone 3 s args wsX7_classOrNone RX7) (hr : meth.sig.returnType = (some .int)) (hlk : meth.locks = false) (hR : 2 ≤ R.frames ∧ 43 ≤ R.locals) (hK : va_K (dC, dI) vwCl [(cI, .int), (cZ, .boolean)] s) (hA : ∀ q, s.heap.size ≤ q → A q) (x2 : Int32) (σ : rS) (H : Heap) (locs : List Loc) (ls : Array Slot) (hl : lv_has ls 3 [(0, .ref h), (2, .int x2)]) (hO : rO dC dI h a cI cZ A s.heap σ H locs) (hw : R_classOrNone_b55 Q x2 σ) : W p l e R s m args below meth c H locs 0 0 (MQ below (va_Qi Q (rAt dC dI A h a cI cZ) A) args s 0 0 A) (F0 m 55 ls []) := by
  unfold R_classOrNone_b55 at hw
  refine lv_iload_n X.1 X.2.1 dX7_classOrNone_55 rfl (lv_at hl 1 rfl) ?_
  exact W.iret (v := x2) X.1 X.2.1 hr (fun t ht hW => ⟨⟨x2, σ, rfl, hw, rO_end hO hK ht hW⟩, hO.2.2.F ht⟩) hO.2.2.2.2 dX7_classOrNone_56 hlk
def R_classOrNone_b48 (Q : Int32 → rS → Prop) (x1 : Int32) (x2 : Int32) (σ : rS) : Prop :=
 R_fail_w (fun t52 => R_classOrNone_b55 Q x2 t52) (6 : Int32) x1 σ
set_option maxHeartbeats 4000000 in
set_option maxRecDepth 100000 in
theorem rB_classOrNone_48 {Q : Int32 → rS → Prop} (X : CallFix p m c cX7_classOrNone 3 s args wsX7_classOrNone RX7) (hr : meth.sig.returnType = (some .int)) (hlk : meth.locks = false) (hR : 2 ≤ R.frames ∧ 43 ≤ R.locals) (hK : va_K (dC, dI) vwCl [(cI, .int), (cZ, .boolean)] s) (hA : ∀ q, s.heap.size ≤ q → A q) (x1 : Int32) (x2 : Int32) (σ : rS) (H : Heap) (locs : List Loc) (ls : Array Slot) (hl : lv_has ls 3 [(0, .ref h), (1, .int x1), (2, .int x2)]) (hO : rO dC dI h a cI cZ A s.heap σ H locs) (hw : R_classOrNone_b48 Q x1 x2 σ) : W p l e R s m args below meth c H locs 0 0 (MQ below (va_Qi Q (rAt dC dI A h a cI cZ) A) args s 0 0 A) (F0 m 48 ls []) := by
  unfold R_classOrNone_b48 at hw
  refine lv_aload_n X.1 X.2.1 dX7_classOrNone_48 rfl (lv_at hl 0 rfl) ?_
  refine lv_bipush (v := 6) X.1 X.2.1 dX7_classOrNone_49 (by decide) ?_
  refine lv_iload_n X.1 X.2.1 dX7_classOrNone_51 rfl (lv_at hl 1 rfl) ?_
  refine r_callv (rest := []) (As := [.int (6 : Int32), .int x1]) X (rC_fail l dC dI h a cI cZ σ H.size (6 : Int32) x1 _ hw) (cwV 2 X.2.2.2.2 gX7_fail rfl rfl rfl hdX7_fail ⟨Nat.le_trans (by decide) hR.1, Nat.le_trans (by decide) hR.2⟩) hK hA hO rfl hl.1 rfl (Nat.le_of_ble_eq_true rfl) dX7_classOrNone_52 (fun t52 H locs hO hw => ?_)
  exact rB_classOrNone_55 X hr hlk hR hK hA x2 t52 H locs ls (lv_sub hl [0, 2] rfl) hO hw
def R_classOrNone_b0 (Q : Int32 → rS → Prop) (σ : rS) : Prop :=
 ∀ v4 : Int32, v4 = (σ.1 21) → R_take_w (fun r6 t6 => (¬ (t6.1 23) = 0 → R_classOrNone_b55 Q r6 t6) ∧ ((t6.1 23) = 0 → (r6 = 0 → R_classOrNone_b55 Q r6 t6) ∧ (¬ r6 = 0 → ((t6.1 22) < r6 → R_classOrNone_b48 Q v4 r6 t6) ∧ (¬ (t6.1 22) < r6 → vp_in (((13 : Int32) * (t6.1 18)) + r6) 208 ∧ ((t6.2 6 (((13 : Int32) * (t6.1 18)) + r6).toNatClampNeg) = (7 : Int32) → R_classOrNone_b55 Q r6 t6) ∧ (¬ (t6.2 6 (((13 : Int32) * (t6.1 18)) + r6).toNatClampNeg) = (7 : Int32) → R_classOrNone_b48 Q v4 r6 t6))))) σ
set_option maxHeartbeats 4000000 in
set_option maxRecDepth 100000 in
theorem rB_classOrNone_0 {Q : Int32 → rS → Prop} (X : CallFix p m c cX7_classOrNone 3 s args wsX7_classOrNone RX7) (hr : meth.sig.returnType = (some .int)) (hlk : meth.locks = false) (hR : 2 ≤ R.frames ∧ 43 ≤ R.locals) (hK : va_K (dC, dI) vwCl [(cI, .int), (cZ, .boolean)] s) (hA : ∀ q, s.heap.size ≤ q → A q) (σ : rS) (H : Heap) (locs : List Loc) (ls : Array Slot) (hl : lv_has ls 3 [(0, .ref h)]) (hO : rO dC dI h a cI cZ A s.heap σ H locs) (hw : R_classOrNone_b0 Q σ) : W p l e R s m args below meth c H locs 0 0 (MQ below (va_Qi Q (rAt dC dI A h a cI cZ) A) args s 0 0 A) (F0 m 0 ls []) := by
  unfold R_classOrNone_b0 at hw
  refine lv_aload_n X.1 X.2.1 dX7_classOrNone_0 rfl (lv_at hl 0 rfl) ?_
  refine rf_at X hK hO dX7_classOrNone_1 ?_
  refine lv_topi (fun v4 e4 => ?_)
  have hw := hw v4 e4
  refine lv_istore_n (lv' := [(1, .int v4), (0, .ref h)]) X.1 X.2.1 dX7_classOrNone_4 rfl hl (by decide) rfl (fun ls hl => ?_)
  refine lv_aload_n X.1 X.2.1 dX7_classOrNone_5 rfl (lv_at hl 1 rfl) ?_
  refine r_calli (rest := []) (As := []) X (rC_take l dC dI h a cI cZ σ H.size _ hw) (cwV 0 X.2.2.2.2 gX7_take rfl rfl rfl hdX7_take ⟨Nat.le_trans (by decide) hR.1, Nat.le_trans (by decide) hR.2⟩) hK hA hO rfl hl.1 rfl (Nat.le_of_ble_eq_true rfl) dX7_classOrNone_6 (fun r6 t6 H locs hO hw => ?_)
  refine lv_istore_n (lv' := [(2, .int r6), (1, .int v4), (0, .ref h)]) X.1 X.2.1 dX7_classOrNone_9 rfl hl (by decide) rfl (fun ls hl => ?_)
  refine lv_aload_n X.1 X.2.1 dX7_classOrNone_10 rfl (lv_at hl 2 rfl) ?_
  refine rf_reason X hK hO dX7_classOrNone_11 ?_
  refine lv_if_ne (tgt := 55) X.1 X.2.1 dX7_classOrNone_14 rfl (fun hc9 => ?_) (fun hc9 => ?_)
  · have hw := hw.1 hc9
    exact rB_classOrNone_55 X hr hlk hR hK hA r6 t6 H locs ls (lv_sub hl [2, 0] rfl) hO hw
  · have hw := hw.2 hc9
    refine lv_iload_n X.1 X.2.1 dX7_classOrNone_17 rfl (lv_at hl 0 rfl) ?_
    refine lv_if_eq (tgt := 55) X.1 X.2.1 dX7_classOrNone_18 rfl (fun hc9 => ?_) (fun hc9 => ?_)
    · have hw := hw.1 hc9
      exact rB_classOrNone_55 X hr hlk hR hK hA r6 t6 H locs ls (lv_sub hl [2, 0] rfl) hO hw
    · have hw := hw.2 hc9
      refine lv_iload_n X.1 X.2.1 dX7_classOrNone_21 rfl (lv_at hl 0 rfl) ?_
      refine lv_aload_n X.1 X.2.1 dX7_classOrNone_22 rfl (lv_at hl 2 rfl) ?_
      refine rf_constants X hK hO dX7_classOrNone_23 ?_
      refine lv_icmp_gt (tgt := 48) X.1 X.2.1 dX7_classOrNone_26 rfl (fun hc9 => ?_) (fun hc9 => ?_)
      · have hw := hw.1 hc9
        exact rB_classOrNone_48 X hr hlk hR hK hA v4 r6 t6 H locs ls (lv_sub hl [2, 1, 0] rfl) hO hw
      · have hw := hw.2 hc9
        refine lv_aload_n X.1 X.2.1 dX7_classOrNone_29 rfl (lv_at hl 2 rfl) ?_
        refine rf_sort X hK hO dX7_classOrNone_30 ?_
        refine lv_bipush (v := 13) X.1 X.2.1 dX7_classOrNone_33 (by decide) ?_
        refine lv_aload_n X.1 X.2.1 dX7_classOrNone_35 rfl (lv_at hl 2 rfl) ?_
        refine rf_now X hK hO dX7_classOrNone_36 ?_
        refine lv_imul X.1 X.2.1 dX7_classOrNone_39 ?_
        refine lv_iload_n X.1 X.2.1 dX7_classOrNone_40 rfl (lv_at hl 0 rfl) ?_
        refine lv_iadd X.1 X.2.1 dX7_classOrNone_41 ?_
        obtain ⟨g42, hw⟩ := hw
        refine ra_sort X.1 X.2.1 hK hO g42 dX7_classOrNone_42 ?_
        refine lv_bipush (v := 7) X.1 X.2.1 dX7_classOrNone_43 (by decide) ?_
        refine lv_icmp_eq (tgt := 55) X.1 X.2.1 dX7_classOrNone_45 rfl (fun hc9 => ?_) (fun hc9 => ?_)
        · have hw := hw.1 hc9
          exact rB_classOrNone_55 X hr hlk hR hK hA r6 t6 H locs ls (lv_sub hl [2, 0] rfl) hO hw
        · have hw := hw.2 hc9
          exact rB_classOrNone_48 X hr hlk hR hK hA v4 r6 t6 H locs ls (lv_sub hl [2, 1, 0] rfl) hO hw
def R_classOrNone_w (Q : Int32 → rS → Prop) (σ : rS) : Prop := R_classOrNone_b0 Q σ
abbrev rmX7_classOrNone : Room := { frames := 2, cells := 0, slots := 0, locals := 43 }
set_option maxHeartbeats 4000000 in
set_option maxRecDepth 100000 in
theorem rC_classOrNone (l : Launch) (dC : Nat → ClassId) (dI : Nat → Nat → Nat) (h : Nat) (a : Nat → Nat) (cI cZ : ClassId) (σ : rS) (sz : Nat) (Q : Int32 → rS → Prop) (hw : R_classOrNone_w Q σ) : Met l yX7_classOrNone wsX7_classOrNone rmX7_classOrNone (rPc dC dI h a cI cZ sz σ [.ref h]) (va_Qi Q (rAt dC dI (va_A (rCells h a cI cZ σ) sz) h a cI cZ) (va_A (rCells h a cI cZ σ) sz)) 0 0 (va_A (rCells h a cI cZ σ) sz) := by
  refine Met.ofW (cc := cX7_classOrNone) (maxL := 3) (ret := (some .int)) (by decide) rfl ?_
  intro p e s m args below meth c s₁ B hml hv
  obtain ⟨hargs, hsz, hP, hK, hD0⟩ := hv
  have hts := atoms_spec (ws := wsX7_classOrNone) B.pre
  have hown : s.vm.findClass RX7 = some m.cls := findClass_of_methodNamed B.named
  subst hsz
  subst hargs
  have hD := hD0.self (sz := s.heap.size)
  generalize hAe : va_A (rCells h a cI cZ σ) s.heap.size = A at hD ⊢
  have hA : ∀ q : Nat, s.heap.size ≤ q → A q := fun q h => by rw [← hAe]; exact Or.inr h
  have hl := lv_entry ([.ref h]) (n := 3) (Nat.le_of_ble_eq_true rfl)
  rw [lg_entry_eq]
  generalize (lg_sl ([.ref h]) ++ List.replicate (3 - (lg_sl ([.ref h])).length) Slot.unset).toArray = ls at hl ⊢
  have hl : lv_has ls 3 [(0, .ref h)] := hl
  unfold R_classOrNone_w at hw
  exact rB_classOrNone_0 ⟨B.exec, B.bytes, hml, hown, hts⟩ B.returns B.notSynchronized ⟨Nat.le_of_ble_eq_true rfl, Nat.le_of_ble_eq_true rfl⟩ hK hA σ s.heap [] ls (lv_sub hl [0] rfl) ⟨hP, hD, va_S.rf⟩ hw
end
