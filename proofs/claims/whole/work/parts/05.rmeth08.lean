section
variable {p : Program} {l : Launch} {e : Env} {R : Room} {s : State} {m : MethodId} {args : Array Value} {below : List Frame} {meth : Method} {c : Code}
variable {dC : Nat → ClassId} {dI : Nat → Nat → Nat} {h : Nat} {a : Nat → Nat} {cI cZ : ClassId} {A : Nat → Prop}
def R_lookUp_b8_s (Q : Int32 → rS → Prop) (K8 : Int32 → Int32 → Int32 → Int32 → Int32 → rS → Prop) (x1 : Int32) (x2 : Int32) (x3 : Int32) (x4 : Int32) (x5 : Int32) (σ : rS) : Prop :=
 vp_in x2 1920 ∧ ((σ.2 2 x2.toNatClampNeg) ≤ x5 → Q (-1 : Int32) σ) ∧ (¬ (σ.2 2 x2.toNatClampNeg) ≤ x5 → vp_in x4 1920 ∧ vp_in (((13 : Int32) * x1) + (σ.2 2 x4.toNatClampNeg)) 208 ∧ (¬ (σ.2 8 (((13 : Int32) * x1) + (σ.2 2 x4.toNatClampNeg)).toNatClampNeg) = x3 → R_behind_w (fun r50 t50 => ∀ v55 : Int32, v55 = x5 + (1 : Int32) → K8 x1 x2 x3 r50 v55 t50) (x4 + (1 : Int32)) σ) ∧ ((σ.2 8 (((13 : Int32) * x1) + (σ.2 2 x4.toNatClampNeg)).toNatClampNeg) = x3 → Q (x4 + (1 : Int32)) σ))
def R_lookUp_b8_f (Q : Int32 → rS → Prop) : (Int32 × Int32 × Int32 × Int32 × Int32 × rS → Prop) → Int32 × Int32 × Int32 × Int32 × Int32 × rS → Prop :=
 fun K z => R_lookUp_b8_s Q (fun x1 x2 x3 x4 x5 σ => K (x1, x2, x3, x4, x5, σ)) z.1 z.2.1 z.2.2.1 z.2.2.2.1 z.2.2.2.2.1 z.2.2.2.2.2
def R_lookUp_b8 (Q : Int32 → rS → Prop) (x1 : Int32) (x2 : Int32) (x3 : Int32) (x4 : Int32) (x5 : Int32) (σ : rS) : Prop := ∃ n, fx (R_lookUp_b8_f Q ) n (x1, x2, x3, x4, x5, σ)
set_option maxHeartbeats 4000000 in
set_option maxRecDepth 100000 in
theorem rB_lookUp_8 {Q : Int32 → rS → Prop} (X : CallFix p m c cX7_lookUp 6 s args wsX7_lookUp RX7) (hr : meth.sig.returnType = (some .int)) (hlk : meth.locks = false) (hR : 1 ≤ R.frames ∧ 24 ≤ R.locals) (hK : va_K (dC, dI) vwCl [(cI, .int), (cZ, .boolean)] s) (hA : ∀ q, s.heap.size ≤ q → A q) : ∀ (n : Nat) (x1 : Int32) (x2 : Int32) (x3 : Int32) (x4 : Int32) (x5 : Int32) (σ : rS) (H : Heap) (locs : List Loc) (ls : Array Slot), lv_has ls 6 [(0, .ref h), (1, .int x1), (2, .int x2), (3, .int x3), (4, .int x4), (5, .int x5)] → rO dC dI h a cI cZ A s.heap σ H locs → fx (R_lookUp_b8_f Q ) n (x1, x2, x3, x4, x5, σ) → W p l e R s m args below meth c H locs 0 0 (MQ below (va_Qi Q (rAt dC dI A h a cI cZ) A) args s 0 0 A) (F0 m 8 ls []) := by
  intro n
  induction n with
  | zero => intro x1 x2 x3 x4 x5 σ H locs ls hl hO hw; exact False.elim hw
  | succ n k8 =>
    intro x1 x2 x3 x4 x5 σ H locs ls hl hO hw
    have hw : R_lookUp_b8_s Q (fun x1 x2 x3 x4 x5 σ => fx (R_lookUp_b8_f Q ) n (x1, x2, x3, x4, x5, σ)) x1 x2 x3 x4 x5 σ := hw
    unfold R_lookUp_b8_s at hw
    refine lv_iload X.1 X.2.1 dX7_lookUp_8 (lv_at hl 5 rfl) ?_
    refine lv_aload_n X.1 X.2.1 dX7_lookUp_10 rfl (lv_at hl 0 rfl) ?_
    refine rf_bytes X hK hO dX7_lookUp_11 ?_
    refine lv_iload_n X.1 X.2.1 dX7_lookUp_14 rfl (lv_at hl 2 rfl) ?_
    obtain ⟨g15, hw⟩ := hw
    refine ra_bytes X.1 X.2.1 hK hO g15 dX7_lookUp_15 ?_
    refine lv_icmp_ge (tgt := 61) X.1 X.2.1 dX7_lookUp_16 rfl (fun hc9 => ?_) (fun hc9 => ?_)
    · have hw := hw.1 hc9
      refine lv_iconst (v := -1) X.1 X.2.1 dX7_lookUp_61 (by decide) ?_
      exact W.iret (v := (-1 : Int32)) X.1 X.2.1 hr (fun t ht hW => ⟨⟨(-1 : Int32), σ, rfl, hw, rO_end hO hK ht hW⟩, hO.2.2.F ht⟩) hO.2.2.2.2 dX7_lookUp_62 hlk
    · have hw := hw.2 hc9
      refine lv_aload_n X.1 X.2.1 dX7_lookUp_19 rfl (lv_at hl 0 rfl) ?_
      refine rf_text X hK hO dX7_lookUp_20 ?_
      refine lv_bipush (v := 13) X.1 X.2.1 dX7_lookUp_23 (by decide) ?_
      refine lv_iload_n X.1 X.2.1 dX7_lookUp_25 rfl (lv_at hl 1 rfl) ?_
      refine lv_imul X.1 X.2.1 dX7_lookUp_26 ?_
      refine lv_aload_n X.1 X.2.1 dX7_lookUp_27 rfl (lv_at hl 0 rfl) ?_
      refine rf_bytes X hK hO dX7_lookUp_28 ?_
      refine lv_iload X.1 X.2.1 dX7_lookUp_31 (lv_at hl 4 rfl) ?_
      obtain ⟨g33, hw⟩ := hw
      refine ra_bytes X.1 X.2.1 hK hO g33 dX7_lookUp_33 ?_
      refine lv_iadd X.1 X.2.1 dX7_lookUp_34 ?_
      obtain ⟨g35, hw⟩ := hw
      refine ra_text X.1 X.2.1 hK hO g35 dX7_lookUp_35 ?_
      refine lv_iload_n X.1 X.2.1 dX7_lookUp_36 rfl (lv_at hl 3 rfl) ?_
      refine lv_icmp_ne (tgt := 45) X.1 X.2.1 dX7_lookUp_37 rfl (fun hc9 => ?_) (fun hc9 => ?_)
      · have hw := hw.1 hc9
        refine lv_aload_n X.1 X.2.1 dX7_lookUp_45 rfl (lv_at hl 0 rfl) ?_
        refine lv_iload X.1 X.2.1 dX7_lookUp_46 (lv_at hl 4 rfl) ?_
        refine lv_iconst (v := 1) X.1 X.2.1 dX7_lookUp_48 (by decide) ?_
        refine lv_iadd X.1 X.2.1 dX7_lookUp_49 ?_
        refine r_calli (rest := []) (As := [.int (x4 + (1 : Int32))]) X (rC_behind l dC dI h a cI cZ σ H.size (x4 + (1 : Int32)) _ hw) (cwV 1 X.2.2.2.2 gX7_behind rfl rfl rfl hdX7_behind ⟨Nat.le_trans (by decide) hR.1, Nat.le_trans (by decide) hR.2⟩) hK hA hO rfl hl.1 rfl (Nat.le_of_ble_eq_true rfl) dX7_lookUp_50 (fun r50 t50 H locs hO hw => ?_)
        refine lv_istore (lv' := [(4, .int r50), (0, .ref h), (1, .int x1), (2, .int x2), (3, .int x3), (5, .int x5)]) X.1 X.2.1 dX7_lookUp_53 hl (by decide) rfl (fun ls hl => ?_)
        obtain ⟨v55, e55⟩ : ∃ z, z = x5 + (1 : Int32) := ⟨_, rfl⟩
        have hw := hw v55 e55
        refine lv_iinc (lv' := [(5, .int v55), (4, .int r50), (0, .ref h), (1, .int x1), (2, .int x2), (3, .int x3)]) (k := 5) (v := v55) X.1 X.2.1 dX7_lookUp_55 hl rfl (by rw [e55]; rfl) (by decide) rfl (fun ls hl => ?_)
        refine lv_goto (tgt := 8) X.1 X.2.1 dX7_lookUp_58 rfl ?_
        exact k8 x1 x2 x3 r50 v55 t50 H locs ls (lv_sub hl [2, 3, 4, 5, 1, 0] rfl) hO hw
      · have hw := hw.2 hc9
        refine lv_iload X.1 X.2.1 dX7_lookUp_40 (lv_at hl 4 rfl) ?_
        refine lv_iconst (v := 1) X.1 X.2.1 dX7_lookUp_42 (by decide) ?_
        refine lv_iadd X.1 X.2.1 dX7_lookUp_43 ?_
        exact W.iret (v := (x4 + (1 : Int32))) X.1 X.2.1 hr (fun t ht hW => ⟨⟨(x4 + (1 : Int32)), σ, rfl, hw, rO_end hO hK ht hW⟩, hO.2.2.F ht⟩) hO.2.2.2.2 dX7_lookUp_44 hlk
def R_lookUp_b0 (Q : Int32 → rS → Prop) (x1 : Int32) (x2 : Int32) (x3 : Int32) (σ : rS) : Prop :=
 ∀ v3 : Int32, v3 = (x2 + (1 : Int32)) → R_lookUp_b8 Q x1 x2 x3 v3 (0 : Int32) σ
set_option maxHeartbeats 4000000 in
set_option maxRecDepth 100000 in
theorem rB_lookUp_0 {Q : Int32 → rS → Prop} (X : CallFix p m c cX7_lookUp 6 s args wsX7_lookUp RX7) (hr : meth.sig.returnType = (some .int)) (hlk : meth.locks = false) (hR : 1 ≤ R.frames ∧ 24 ≤ R.locals) (hK : va_K (dC, dI) vwCl [(cI, .int), (cZ, .boolean)] s) (hA : ∀ q, s.heap.size ≤ q → A q) (x1 : Int32) (x2 : Int32) (x3 : Int32) (σ : rS) (H : Heap) (locs : List Loc) (ls : Array Slot) (hl : lv_has ls 6 [(0, .ref h), (1, .int x1), (2, .int x2), (3, .int x3)]) (hO : rO dC dI h a cI cZ A s.heap σ H locs) (hw : R_lookUp_b0 Q x1 x2 x3 σ) : W p l e R s m args below meth c H locs 0 0 (MQ below (va_Qi Q (rAt dC dI A h a cI cZ) A) args s 0 0 A) (F0 m 0 ls []) := by
  unfold R_lookUp_b0 at hw
  refine lv_iload_n X.1 X.2.1 dX7_lookUp_0 rfl (lv_at hl 2 rfl) ?_
  refine lv_iconst (v := 1) X.1 X.2.1 dX7_lookUp_1 (by decide) ?_
  refine lv_iadd X.1 X.2.1 dX7_lookUp_2 ?_
  refine lv_topi (fun v3 e3 => ?_)
  have hw := hw v3 e3
  refine lv_istore (lv' := [(4, .int v3), (0, .ref h), (1, .int x1), (2, .int x2), (3, .int x3)]) X.1 X.2.1 dX7_lookUp_3 hl (by decide) rfl (fun ls hl => ?_)
  refine lv_iconst (v := 0) X.1 X.2.1 dX7_lookUp_5 (by decide) ?_
  refine lv_istore (lv' := [(5, .int (0 : Int32)), (4, .int v3), (0, .ref h), (1, .int x1), (2, .int x2), (3, .int x3)]) X.1 X.2.1 dX7_lookUp_6 hl (by decide) rfl (fun ls hl => ?_)
  obtain ⟨n, hw⟩ := hw
  exact rB_lookUp_8 X hr hlk hR hK hA n x1 x2 x3 v3 (0 : Int32) σ H locs ls (lv_sub hl [2, 3, 4, 5, 1, 0] rfl) hO hw
def R_lookUp_w (Q : Int32 → rS → Prop) (x1 : Int32) (x2 : Int32) (x3 : Int32) (σ : rS) : Prop := R_lookUp_b0 Q x1 x2 x3 σ
abbrev rmX7_lookUp : Room := { frames := 1, cells := 0, slots := 0, locals := 24 }
set_option maxHeartbeats 4000000 in
set_option maxRecDepth 100000 in
theorem rC_lookUp (l : Launch) (dC : Nat → ClassId) (dI : Nat → Nat → Nat) (h : Nat) (a : Nat → Nat) (cI cZ : ClassId) (σ : rS) (sz : Nat) (x1 : Int32) (x2 : Int32) (x3 : Int32) (Q : Int32 → rS → Prop) (hw : R_lookUp_w Q x1 x2 x3 σ) : Met l yX7_lookUp wsX7_lookUp rmX7_lookUp (rPc dC dI h a cI cZ sz σ [.ref h, .int x1, .int x2, .int x3]) (va_Qi Q (rAt dC dI (va_A (rCells h a cI cZ σ) sz) h a cI cZ) (va_A (rCells h a cI cZ σ) sz)) 0 0 (va_A (rCells h a cI cZ σ) sz) := by
  refine Met.ofW (cc := cX7_lookUp) (maxL := 6) (ret := (some .int)) (by decide) rfl ?_
  intro p e s m args below meth c s₁ B hml hv
  obtain ⟨hargs, hsz, hP, hK, hD0⟩ := hv
  have hts := atoms_spec (ws := wsX7_lookUp) B.pre
  have hown : s.vm.findClass RX7 = some m.cls := findClass_of_methodNamed B.named
  subst hsz
  subst hargs
  have hD := hD0.self (sz := s.heap.size)
  generalize hAe : va_A (rCells h a cI cZ σ) s.heap.size = A at hD ⊢
  have hA : ∀ q : Nat, s.heap.size ≤ q → A q := fun q h => by rw [← hAe]; exact Or.inr h
  have hl := lv_entry ([.ref h, .int x1, .int x2, .int x3]) (n := 6) (Nat.le_of_ble_eq_true rfl)
  rw [lg_entry_eq]
  generalize (lg_sl ([.ref h, .int x1, .int x2, .int x3]) ++ List.replicate (6 - (lg_sl ([.ref h, .int x1, .int x2, .int x3])).length) Slot.unset).toArray = ls at hl ⊢
  have hl : lv_has ls 6 [(0, .ref h), (1, .int x1), (2, .int x2), (3, .int x3)] := hl
  unfold R_lookUp_w at hw
  exact rB_lookUp_0 ⟨B.exec, B.bytes, hml, hown, hts⟩ B.returns B.notSynchronized ⟨Nat.le_of_ble_eq_true rfl, Nat.le_of_ble_eq_true rfl⟩ hK hA x1 x2 x3 σ s.heap [] ls (lv_sub hl [0, 1, 2, 3] rfl) ⟨hP, hD, va_S.rf⟩ hw
def R_inside_b54 (Q : Int32 → rS → Prop) (σ : rS) : Prop :=
 Q (-1 : Int32) σ
set_option maxHeartbeats 4000000 in
set_option maxRecDepth 100000 in
theorem rB_inside_54 {Q : Int32 → rS → Prop} (X : CallFix p m c cX7_inside 6 s args wsX7_inside RX7) (hr : meth.sig.returnType = (some .int)) (hlk : meth.locks = false) (hR : 1 ≤ R.frames ∧ 24 ≤ R.locals) (hK : va_K (dC, dI) vwCl [(cI, .int), (cZ, .boolean)] s) (hA : ∀ q, s.heap.size ≤ q → A q) (σ : rS) (H : Heap) (locs : List Loc) (ls : Array Slot) (hl : lv_has ls 6 [(0, .ref h)]) (hO : rO dC dI h a cI cZ A s.heap σ H locs) (hw : R_inside_b54 Q σ) : W p l e R s m args below meth c H locs 0 0 (MQ below (va_Qi Q (rAt dC dI A h a cI cZ) A) args s 0 0 A) (F0 m 54 ls []) := by
  unfold R_inside_b54 at hw
  refine lv_iconst (v := -1) X.1 X.2.1 dX7_inside_54 (by decide) ?_
  exact W.iret (v := (-1 : Int32)) X.1 X.2.1 hr (fun t ht hW => ⟨⟨(-1 : Int32), σ, rfl, hw, rO_end hO hK ht hW⟩, hO.2.2.F ht⟩) hO.2.2.2.2 dX7_inside_55 hlk
def R_inside_b107 (Q : Int32 → rS → Prop) (K78 : Int32 → Int32 → Int32 → Int32 → rS → Prop) (x2 : Int32) (x3 : Int32) (x5 : Int32) (y0 : Int32) (σ : rS) : Prop :=
 ∀ v109 : Int32, v109 = x5 + (1 : Int32) → K78 x2 x3 y0 v109 σ
set_option maxHeartbeats 4000000 in
set_option maxRecDepth 100000 in
theorem rB_inside_107 {Q : Int32 → rS → Prop} {K78 : Int32 → Int32 → Int32 → Int32 → rS → Prop} (X : CallFix p m c cX7_inside 6 s args wsX7_inside RX7) (hr : meth.sig.returnType = (some .int)) (hlk : meth.locks = false) (hR : 1 ≤ R.frames ∧ 24 ≤ R.locals) (hK : va_K (dC, dI) vwCl [(cI, .int), (cZ, .boolean)] s) (hA : ∀ q, s.heap.size ≤ q → A q) (k78 : ∀ (x2 : Int32) (x3 : Int32) (x4 : Int32) (x5 : Int32) (σ : rS) (H : Heap) (locs : List Loc) (ls : Array Slot), lv_has ls 6 [(0, .ref h), (2, .int x2), (3, .int x3), (4, .int x4), (5, .int x5)] → rO dC dI h a cI cZ A s.heap σ H locs → K78 x2 x3 x4 x5 σ → W p l e R s m args below meth c H locs 0 0 (MQ below (va_Qi Q (rAt dC dI A h a cI cZ) A) args s 0 0 A) (F0 m 78 ls [])) (x2 : Int32) (x3 : Int32) (x5 : Int32) (y0 : Int32) (σ : rS) (H : Heap) (locs : List Loc) (ls : Array Slot) (hl : lv_has ls 6 [(0, .ref h), (2, .int x2), (3, .int x3), (5, .int x5)]) (hO : rO dC dI h a cI cZ A s.heap σ H locs) (hw : R_inside_b107 Q K78 x2 x3 x5 y0 σ) : W p l e R s m args below meth c H locs 0 0 (MQ below (va_Qi Q (rAt dC dI A h a cI cZ) A) args s 0 0 A) (F0 m 107 ls [.int y0]) := by
  unfold R_inside_b107 at hw
  refine lv_istore (lv' := [(4, .int y0), (0, .ref h), (2, .int x2), (3, .int x3), (5, .int x5)]) X.1 X.2.1 dX7_inside_107 hl (by decide) rfl (fun ls hl => ?_)
  obtain ⟨v109, e109⟩ : ∃ z, z = x5 + (1 : Int32) := ⟨_, rfl⟩
  have hw := hw v109 e109
  refine lv_iinc (lv' := [(5, .int v109), (4, .int y0), (0, .ref h), (2, .int x2), (3, .int x3)]) (k := 4) (v := v109) X.1 X.2.1 dX7_inside_109 hl rfl (by rw [e109]; rfl) (by decide) rfl (fun ls hl => ?_)
  refine lv_goto (tgt := 78) X.1 X.2.1 dX7_inside_112 rfl ?_
  exact k78 x2 x3 y0 v109 σ H locs ls (lv_sub hl [2, 3, 4, 1, 0] rfl) hO hw
def R_inside_b78_s (Q : Int32 → rS → Prop) (K78 : Int32 → Int32 → Int32 → Int32 → rS → Prop) (x2 : Int32) (x3 : Int32) (x4 : Int32) (x5 : Int32) (σ : rS) : Prop :=
 (x2 ≤ x5 → Q x4 σ) ∧ (¬ x2 ≤ x5 → R_behind_w (fun r87 t87 => (¬ x3 = (64 : Int32) → R_inside_b107 Q K78 x2 x3 x5 r87 t87) ∧ (x3 = (64 : Int32) → R_inside_b107 Q K78 x2 x3 x5 (r87 + (1 : Int32)) t87)) x4 σ)
def R_inside_b78_f (Q : Int32 → rS → Prop) : (Int32 × Int32 × Int32 × Int32 × rS → Prop) → Int32 × Int32 × Int32 × Int32 × rS → Prop :=
 fun K z => R_inside_b78_s Q (fun x2 x3 x4 x5 σ => K (x2, x3, x4, x5, σ)) z.1 z.2.1 z.2.2.1 z.2.2.2.1 z.2.2.2.2
def R_inside_b78 (Q : Int32 → rS → Prop) (x2 : Int32) (x3 : Int32) (x4 : Int32) (x5 : Int32) (σ : rS) : Prop := ∃ n, fx (R_inside_b78_f Q ) n (x2, x3, x4, x5, σ)
set_option maxHeartbeats 4000000 in
set_option maxRecDepth 100000 in
theorem rB_inside_78 {Q : Int32 → rS → Prop} (X : CallFix p m c cX7_inside 6 s args wsX7_inside RX7) (hr : meth.sig.returnType = (some .int)) (hlk : meth.locks = false) (hR : 1 ≤ R.frames ∧ 24 ≤ R.locals) (hK : va_K (dC, dI) vwCl [(cI, .int), (cZ, .boolean)] s) (hA : ∀ q, s.heap.size ≤ q → A q) : ∀ (n : Nat) (x2 : Int32) (x3 : Int32) (x4 : Int32) (x5 : Int32) (σ : rS) (H : Heap) (locs : List Loc) (ls : Array Slot), lv_has ls 6 [(0, .ref h), (2, .int x2), (3, .int x3), (4, .int x4), (5, .int x5)] → rO dC dI h a cI cZ A s.heap σ H locs → fx (R_inside_b78_f Q ) n (x2, x3, x4, x5, σ) → W p l e R s m args below meth c H locs 0 0 (MQ below (va_Qi Q (rAt dC dI A h a cI cZ) A) args s 0 0 A) (F0 m 78 ls []) := by
  intro n
  induction n with
  | zero => intro x2 x3 x4 x5 σ H locs ls hl hO hw; exact False.elim hw
  | succ n k78 =>
    intro x2 x3 x4 x5 σ H locs ls hl hO hw
    have hw : R_inside_b78_s Q (fun x2 x3 x4 x5 σ => fx (R_inside_b78_f Q ) n (x2, x3, x4, x5, σ)) x2 x3 x4 x5 σ := hw
    unfold R_inside_b78_s at hw
    refine lv_iload X.1 X.2.1 dX7_inside_78 (lv_at hl 4 rfl) ?_
    refine lv_iload_n X.1 X.2.1 dX7_inside_80 rfl (lv_at hl 1 rfl) ?_
    refine lv_icmp_ge (tgt := 115) X.1 X.2.1 dX7_inside_81 rfl (fun hc9 => ?_) (fun hc9 => ?_)
    · have hw := hw.1 hc9
      refine lv_iload X.1 X.2.1 dX7_inside_115 (lv_at hl 3 rfl) ?_
      exact W.iret (v := x4) X.1 X.2.1 hr (fun t ht hW => ⟨⟨x4, σ, rfl, hw, rO_end hO hK ht hW⟩, hO.2.2.F ht⟩) hO.2.2.2.2 dX7_inside_117 hlk
    · have hw := hw.2 hc9
      refine lv_aload_n X.1 X.2.1 dX7_inside_84 rfl (lv_at hl 0 rfl) ?_
      refine lv_iload X.1 X.2.1 dX7_inside_85 (lv_at hl 3 rfl) ?_
      refine r_calli (rest := []) (As := [.int x4]) X (rC_behind l dC dI h a cI cZ σ H.size x4 _ hw) (cwV 1 X.2.2.2.2 gX7_behind rfl rfl rfl hdX7_behind ⟨Nat.le_trans (by decide) hR.1, Nat.le_trans (by decide) hR.2⟩) hK hA hO rfl hl.1 rfl (Nat.le_of_ble_eq_true rfl) dX7_inside_87 (fun r87 t87 H locs hO hw => ?_)
      refine lv_istore (lv' := [(4, .int r87), (0, .ref h), (2, .int x2), (3, .int x3), (5, .int x5)]) X.1 X.2.1 dX7_inside_90 hl (by decide) rfl (fun ls hl => ?_)
      refine lv_iload_n X.1 X.2.1 dX7_inside_92 rfl (lv_at hl 3 rfl) ?_
      refine lv_bipush (v := 64) X.1 X.2.1 dX7_inside_93 (by decide) ?_
      refine lv_icmp_ne (tgt := 105) X.1 X.2.1 dX7_inside_95 rfl (fun hc9 => ?_) (fun hc9 => ?_)
      · have hw := hw.1 hc9
        refine lv_iload X.1 X.2.1 dX7_inside_105 (lv_at hl 0 rfl) ?_
        exact rB_inside_107 X hr hlk hR hK hA k78 x2 x3 x5 r87 t87 H locs ls (lv_sub hl [1, 2, 3, 4] rfl) hO hw
      · have hw := hw.2 hc9
        refine lv_iload X.1 X.2.1 dX7_inside_98 (lv_at hl 0 rfl) ?_
        refine lv_iconst (v := 1) X.1 X.2.1 dX7_inside_100 (by decide) ?_
        refine lv_iadd X.1 X.2.1 dX7_inside_101 ?_
        refine lv_goto (tgt := 107) X.1 X.2.1 dX7_inside_102 rfl ?_
        exact rB_inside_107 X hr hlk hR hK hA k78 x2 x3 x5 (r87 + (1 : Int32)) t87 H locs ls (lv_sub hl [1, 2, 3, 4] rfl) hO hw
def R_inside_b73 (Q : Int32 → rS → Prop) (x2 : Int32) (x3 : Int32) (y0 : Int32) (σ : rS) : Prop :=
 R_inside_b78 Q x2 x3 y0 (1 : Int32) σ
set_option maxHeartbeats 4000000 in
set_option maxRecDepth 100000 in
theorem rB_inside_73 {Q : Int32 → rS → Prop} (X : CallFix p m c cX7_inside 6 s args wsX7_inside RX7) (hr : meth.sig.returnType = (some .int)) (hlk : meth.locks = false) (hR : 1 ≤ R.frames ∧ 24 ≤ R.locals) (hK : va_K (dC, dI) vwCl [(cI, .int), (cZ, .boolean)] s) (hA : ∀ q, s.heap.size ≤ q → A q) (x2 : Int32) (x3 : Int32) (y0 : Int32) (σ : rS) (H : Heap) (locs : List Loc) (ls : Array Slot) (hl : lv_has ls 6 [(0, .ref h), (2, .int x2), (3, .int x3)]) (hO : rO dC dI h a cI cZ A s.heap σ H locs) (hw : R_inside_b73 Q x2 x3 y0 σ) : W p l e R s m args below meth c H locs 0 0 (MQ below (va_Qi Q (rAt dC dI A h a cI cZ) A) args s 0 0 A) (F0 m 73 ls [.int y0]) := by
  unfold R_inside_b73 at hw
  refine lv_istore (lv' := [(4, .int y0), (0, .ref h), (2, .int x2), (3, .int x3)]) X.1 X.2.1 dX7_inside_73 hl (by decide) rfl (fun ls hl => ?_)
  refine lv_iconst (v := 1) X.1 X.2.1 dX7_inside_75 (by decide) ?_
  refine lv_istore (lv' := [(5, .int (1 : Int32)), (4, .int y0), (0, .ref h), (2, .int x2), (3, .int x3)]) X.1 X.2.1 dX7_inside_76 hl (by decide) rfl (fun ls hl => ?_)
  obtain ⟨n, hw⟩ := hw
  exact rB_inside_78 X hr hlk hR hK hA n x2 x3 y0 (1 : Int32) σ H locs ls (lv_sub hl [2, 3, 4, 1, 0] rfl) hO hw
def R_inside_b36 (Q : Int32 → rS → Prop) (x2 : Int32) (x3 : Int32) (y0 : Int32) (σ : rS) : Prop :=
 (x2 < (1 : Int32) → R_inside_b54 Q σ) ∧ (¬ x2 < (1 : Int32) → vp_in y0 1920 ∧ (x2 ≤ (σ.2 2 y0.toNatClampNeg) → (¬ x3 = (64 : Int32) → R_inside_b73 Q x2 x3 (y0 + (1 : Int32)) σ) ∧ (x3 = (64 : Int32) → R_inside_b73 Q x2 x3 (y0 + (2 : Int32)) σ)) ∧ (¬ x2 ≤ (σ.2 2 y0.toNatClampNeg) → R_inside_b54 Q σ))
set_option maxHeartbeats 4000000 in
set_option maxRecDepth 100000 in
theorem rB_inside_36 {Q : Int32 → rS → Prop} (X : CallFix p m c cX7_inside 6 s args wsX7_inside RX7) (hr : meth.sig.returnType = (some .int)) (hlk : meth.locks = false) (hR : 1 ≤ R.frames ∧ 24 ≤ R.locals) (hK : va_K (dC, dI) vwCl [(cI, .int), (cZ, .boolean)] s) (hA : ∀ q, s.heap.size ≤ q → A q) (x2 : Int32) (x3 : Int32) (y0 : Int32) (σ : rS) (H : Heap) (locs : List Loc) (ls : Array Slot) (hl : lv_has ls 6 [(0, .ref h), (2, .int x2), (3, .int x3)]) (hO : rO dC dI h a cI cZ A s.heap σ H locs) (hw : R_inside_b36 Q x2 x3 y0 σ) : W p l e R s m args below meth c H locs 0 0 (MQ below (va_Qi Q (rAt dC dI A h a cI cZ) A) args s 0 0 A) (F0 m 36 ls [.int y0]) := by
  unfold R_inside_b36 at hw
  refine lv_istore (lv' := [(4, .int y0), (0, .ref h), (2, .int x2), (3, .int x3)]) X.1 X.2.1 dX7_inside_36 hl (by decide) rfl (fun ls hl => ?_)
  refine lv_iload_n X.1 X.2.1 dX7_inside_38 rfl (lv_at hl 2 rfl) ?_
  refine lv_iconst (v := 1) X.1 X.2.1 dX7_inside_39 (by decide) ?_
  refine lv_icmp_lt (tgt := 54) X.1 X.2.1 dX7_inside_40 rfl (fun hc9 => ?_) (fun hc9 => ?_)
  · have hw := hw.1 hc9
    exact rB_inside_54 X hr hlk hR hK hA σ H locs ls (lv_sub hl [1] rfl) hO hw
  · have hw := hw.2 hc9
    refine lv_iload_n X.1 X.2.1 dX7_inside_43 rfl (lv_at hl 2 rfl) ?_
    refine lv_aload_n X.1 X.2.1 dX7_inside_44 rfl (lv_at hl 1 rfl) ?_
    refine rf_bytes X hK hO dX7_inside_45 ?_
    refine lv_iload X.1 X.2.1 dX7_inside_48 (lv_at hl 0 rfl) ?_
    obtain ⟨g50, hw⟩ := hw
    refine ra_bytes X.1 X.2.1 hK hO g50 dX7_inside_50 ?_
    refine lv_icmp_le (tgt := 56) X.1 X.2.1 dX7_inside_51 rfl (fun hc9 => ?_) (fun hc9 => ?_)
    · have hw := hw.1 hc9
      refine lv_iload_n X.1 X.2.1 dX7_inside_56 rfl (lv_at hl 3 rfl) ?_
      refine lv_bipush (v := 64) X.1 X.2.1 dX7_inside_57 (by decide) ?_
      refine lv_icmp_ne (tgt := 69) X.1 X.2.1 dX7_inside_59 rfl (fun hc9 => ?_) (fun hc9 => ?_)
      · have hw := hw.1 hc9
        refine lv_iload X.1 X.2.1 dX7_inside_69 (lv_at hl 0 rfl) ?_
        refine lv_iconst (v := 1) X.1 X.2.1 dX7_inside_71 (by decide) ?_
        refine lv_iadd X.1 X.2.1 dX7_inside_72 ?_
        exact rB_inside_73 X hr hlk hR hK hA x2 x3 (y0 + (1 : Int32)) σ H locs ls (lv_sub hl [1, 2, 3] rfl) hO hw
      · have hw := hw.2 hc9
        refine lv_iload X.1 X.2.1 dX7_inside_62 (lv_at hl 0 rfl) ?_
        refine lv_iconst (v := 2) X.1 X.2.1 dX7_inside_64 (by decide) ?_
        refine lv_iadd X.1 X.2.1 dX7_inside_65 ?_
        refine lv_goto (tgt := 73) X.1 X.2.1 dX7_inside_66 rfl ?_
        exact rB_inside_73 X hr hlk hR hK hA x2 x3 (y0 + (2 : Int32)) σ H locs ls (lv_sub hl [1, 2, 3] rfl) hO hw
    · have hw := hw.2 hc9
      exact rB_inside_54 X hr hlk hR hK hA σ H locs ls (lv_sub hl [1] rfl) hO hw
def R_inside_b21 (Q : Int32 → rS → Prop) (x1 : Int32) (x2 : Int32) (x3 : Int32) (σ : rS) : Prop :=
 (¬ x3 = (64 : Int32) → R_inside_b36 Q x2 x3 (x1 + (1 : Int32)) σ) ∧ (x3 = (64 : Int32) → R_inside_b36 Q x2 x3 (x1 + (2 : Int32)) σ)
set_option maxHeartbeats 4000000 in
set_option maxRecDepth 100000 in
theorem rB_inside_21 {Q : Int32 → rS → Prop} (X : CallFix p m c cX7_inside 6 s args wsX7_inside RX7) (hr : meth.sig.returnType = (some .int)) (hlk : meth.locks = false) (hR : 1 ≤ R.frames ∧ 24 ≤ R.locals) (hK : va_K (dC, dI) vwCl [(cI, .int), (cZ, .boolean)] s) (hA : ∀ q, s.heap.size ≤ q → A q) (x1 : Int32) (x2 : Int32) (x3 : Int32) (σ : rS) (H : Heap) (locs : List Loc) (ls : Array Slot) (hl : lv_has ls 6 [(0, .ref h), (1, .int x1), (2, .int x2), (3, .int x3)]) (hO : rO dC dI h a cI cZ A s.heap σ H locs) (hw : R_inside_b21 Q x1 x2 x3 σ) : W p l e R s m args below meth c H locs 0 0 (MQ below (va_Qi Q (rAt dC dI A h a cI cZ) A) args s 0 0 A) (F0 m 21 ls []) := by
  unfold R_inside_b21 at hw
  refine lv_iload_n X.1 X.2.1 dX7_inside_21 rfl (lv_at hl 3 rfl) ?_
  refine lv_bipush (v := 64) X.1 X.2.1 dX7_inside_22 (by decide) ?_
  refine lv_icmp_ne (tgt := 33) X.1 X.2.1 dX7_inside_24 rfl (fun hc9 => ?_) (fun hc9 => ?_)
  · have hw := hw.1 hc9
    refine lv_iload_n X.1 X.2.1 dX7_inside_33 rfl (lv_at hl 1 rfl) ?_
    refine lv_iconst (v := 1) X.1 X.2.1 dX7_inside_34 (by decide) ?_
    refine lv_iadd X.1 X.2.1 dX7_inside_35 ?_
    exact rB_inside_36 X hr hlk hR hK hA x2 x3 (x1 + (1 : Int32)) σ H locs ls (lv_sub hl [0, 2, 3] rfl) hO hw
  · have hw := hw.2 hc9
    refine lv_iload_n X.1 X.2.1 dX7_inside_27 rfl (lv_at hl 1 rfl) ?_
    refine lv_iconst (v := 2) X.1 X.2.1 dX7_inside_28 (by decide) ?_
    refine lv_iadd X.1 X.2.1 dX7_inside_29 ?_
    refine lv_goto (tgt := 36) X.1 X.2.1 dX7_inside_30 rfl ?_
    exact rB_inside_36 X hr hlk hR hK hA x2 x3 (x1 + (2 : Int32)) σ H locs ls (lv_sub hl [0, 2, 3] rfl) hO hw
def R_inside_b0 (Q : Int32 → rS → Prop) (x1 : Int32) (x2 : Int32) (σ : rS) : Prop :=
 vp_in x1 1920 ∧ ∀ v6 : Int32, v6 = (σ.2 2 x1.toNatClampNeg) → (v6 = (91 : Int32) → R_inside_b21 Q x1 x2 v6 σ) ∧ (¬ v6 = (91 : Int32) → (v6 = (64 : Int32) → R_inside_b21 Q x1 x2 v6 σ) ∧ (¬ v6 = (64 : Int32) → Q (-1 : Int32) σ))
set_option maxHeartbeats 4000000 in
set_option maxRecDepth 100000 in
theorem rB_inside_0 {Q : Int32 → rS → Prop} (X : CallFix p m c cX7_inside 6 s args wsX7_inside RX7) (hr : meth.sig.returnType = (some .int)) (hlk : meth.locks = false) (hR : 1 ≤ R.frames ∧ 24 ≤ R.locals) (hK : va_K (dC, dI) vwCl [(cI, .int), (cZ, .boolean)] s) (hA : ∀ q, s.heap.size ≤ q → A q) (x1 : Int32) (x2 : Int32) (σ : rS) (H : Heap) (locs : List Loc) (ls : Array Slot) (hl : lv_has ls 6 [(0, .ref h), (1, .int x1), (2, .int x2)]) (hO : rO dC dI h a cI cZ A s.heap σ H locs) (hw : R_inside_b0 Q x1 x2 σ) : W p l e R s m args below meth c H locs 0 0 (MQ below (va_Qi Q (rAt dC dI A h a cI cZ) A) args s 0 0 A) (F0 m 0 ls []) := by
  unfold R_inside_b0 at hw
  refine lv_aload_n X.1 X.2.1 dX7_inside_0 rfl (lv_at hl 0 rfl) ?_
  refine rf_bytes X hK hO dX7_inside_1 ?_
  refine lv_iload_n X.1 X.2.1 dX7_inside_4 rfl (lv_at hl 1 rfl) ?_
  obtain ⟨g5, hw⟩ := hw
  refine ra_bytes X.1 X.2.1 hK hO g5 dX7_inside_5 ?_
  refine lv_topi (fun v6 e6 => ?_)
  have hw := hw v6 e6
  refine lv_istore_n (lv' := [(3, .int v6), (0, .ref h), (1, .int x1), (2, .int x2)]) X.1 X.2.1 dX7_inside_6 rfl hl (by decide) rfl (fun ls hl => ?_)
  refine lv_iload_n X.1 X.2.1 dX7_inside_7 rfl (lv_at hl 0 rfl) ?_
  refine lv_bipush (v := 91) X.1 X.2.1 dX7_inside_8 (by decide) ?_
  refine lv_icmp_eq (tgt := 21) X.1 X.2.1 dX7_inside_10 rfl (fun hc9 => ?_) (fun hc9 => ?_)
  · have hw := hw.1 hc9
    exact rB_inside_21 X hr hlk hR hK hA x1 x2 v6 σ H locs ls (lv_sub hl [1, 2, 3, 0] rfl) hO hw
  · have hw := hw.2 hc9
    refine lv_iload_n X.1 X.2.1 dX7_inside_13 rfl (lv_at hl 0 rfl) ?_
    refine lv_bipush (v := 64) X.1 X.2.1 dX7_inside_14 (by decide) ?_
    refine lv_icmp_eq (tgt := 21) X.1 X.2.1 dX7_inside_16 rfl (fun hc9 => ?_) (fun hc9 => ?_)
    · have hw := hw.1 hc9
      exact rB_inside_21 X hr hlk hR hK hA x1 x2 v6 σ H locs ls (lv_sub hl [1, 2, 3, 0] rfl) hO hw
    · have hw := hw.2 hc9
      refine lv_iconst (v := -1) X.1 X.2.1 dX7_inside_19 (by decide) ?_
      exact W.iret (v := (-1 : Int32)) X.1 X.2.1 hr (fun t ht hW => ⟨⟨(-1 : Int32), σ, rfl, hw, rO_end hO hK ht hW⟩, hO.2.2.F ht⟩) hO.2.2.2.2 dX7_inside_20 hlk
def R_inside_w (Q : Int32 → rS → Prop) (x1 : Int32) (x2 : Int32) (σ : rS) : Prop := R_inside_b0 Q x1 x2 σ
abbrev rmX7_inside : Room := { frames := 1, cells := 0, slots := 0, locals := 24 }
set_option maxHeartbeats 4000000 in
set_option maxRecDepth 100000 in
theorem rC_inside (l : Launch) (dC : Nat → ClassId) (dI : Nat → Nat → Nat) (h : Nat) (a : Nat → Nat) (cI cZ : ClassId) (σ : rS) (sz : Nat) (x1 : Int32) (x2 : Int32) (Q : Int32 → rS → Prop) (hw : R_inside_w Q x1 x2 σ) : Met l yX7_inside wsX7_inside rmX7_inside (rPc dC dI h a cI cZ sz σ [.ref h, .int x1, .int x2]) (va_Qi Q (rAt dC dI (va_A (rCells h a cI cZ σ) sz) h a cI cZ) (va_A (rCells h a cI cZ σ) sz)) 0 0 (va_A (rCells h a cI cZ σ) sz) := by
  refine Met.ofW (cc := cX7_inside) (maxL := 6) (ret := (some .int)) (by decide) rfl ?_
  intro p e s m args below meth c s₁ B hml hv
  obtain ⟨hargs, hsz, hP, hK, hD0⟩ := hv
  have hts := atoms_spec (ws := wsX7_inside) B.pre
  have hown : s.vm.findClass RX7 = some m.cls := findClass_of_methodNamed B.named
  subst hsz
  subst hargs
  have hD := hD0.self (sz := s.heap.size)
  generalize hAe : va_A (rCells h a cI cZ σ) s.heap.size = A at hD ⊢
  have hA : ∀ q : Nat, s.heap.size ≤ q → A q := fun q h => by rw [← hAe]; exact Or.inr h
  have hl := lv_entry ([.ref h, .int x1, .int x2]) (n := 6) (Nat.le_of_ble_eq_true rfl)
  rw [lg_entry_eq]
  generalize (lg_sl ([.ref h, .int x1, .int x2]) ++ List.replicate (6 - (lg_sl ([.ref h, .int x1, .int x2])).length) Slot.unset).toArray = ls at hl ⊢
  have hl : lv_has ls 6 [(0, .ref h), (1, .int x1), (2, .int x2)] := hl
  unfold R_inside_w at hw
  exact rB_inside_0 ⟨B.exec, B.bytes, hml, hown, hts⟩ B.returns B.notSynchronized ⟨Nat.le_of_ble_eq_true rfl, Nat.le_of_ble_eq_true rfl⟩ hK hA x1 x2 σ s.heap [] ls (lv_sub hl [0, 1, 2] rfl) ⟨hP, hD, va_S.rf⟩ hw
def R_shown_b119 (Q : Int64 → rS → Prop) (x1 : Int32) (x4 : Int32) (y0 : Int64) (σ : rS) : Prop :=
 vp_in (((13 : Int32) * x1) + x4) 208 ∧ Q ((y0 * (4294967296 : Int64)) + ((σ.2 8 (((13 : Int32) * x1) + x4).toNatClampNeg).toInt64)) σ
set_option maxHeartbeats 4000000 in
set_option maxRecDepth 100000 in
theorem rB_shown_119 {Q : Int64 → rS → Prop} (X : CallFix p m c cX7_shown 8 s args wsX7_shown RX7) (hr : meth.sig.returnType = (some .long)) (hlk : meth.locks = false) (hR : 0 ≤ R.frames ∧ 0 ≤ R.locals) (hK : va_K (dC, dI) vwCl [(cI, .int), (cZ, .boolean)] s) (hA : ∀ q, s.heap.size ≤ q → A q) (x1 : Int32) (x4 : Int32) (y0 : Int64) (σ : rS) (H : Heap) (locs : List Loc) (ls : Array Slot) (hl : lv_has ls 8 [(0, .ref h), (1, .int x1), (4, .int x4)]) (hO : rO dC dI h a cI cZ A s.heap σ H locs) (hw : R_shown_b119 Q x1 x4 y0 σ) : W p l e R s m args below meth c H locs 0 0 (MQ below (va_Ql Q (rAt dC dI A h a cI cZ) A) args s 0 0 A) (F0 m 119 ls [.long y0]) := by
  unfold R_shown_b119 at hw
  refine lv_lstore (lv' := [(5, .long y0), (0, .ref h), (1, .int x1), (4, .int x4)]) X.1 X.2.1 dX7_shown_119 hl (by decide) rfl (fun ls hl => ?_)
  refine lv_lload X.1 X.2.1 dX7_shown_121 (lv_at hl 0 rfl) ?_
  refine lv_ldc2 (v := 4294967296) X.1 X.2.1 X.2.2.2.1 (X.2.2.2.2 _ (List.mem_cons_of_mem _ qX7_185)) dX7_shown_123 ?_
  refine lv_lmul X.1 X.2.1 dX7_shown_126 ?_
  refine lv_aload_n X.1 X.2.1 dX7_shown_127 rfl (lv_at hl 1 rfl) ?_
  refine rf_text X hK hO dX7_shown_128 ?_
  refine lv_bipush (v := 13) X.1 X.2.1 dX7_shown_131 (by decide) ?_
  refine lv_iload_n X.1 X.2.1 dX7_shown_133 rfl (lv_at hl 2 rfl) ?_
  refine lv_imul X.1 X.2.1 dX7_shown_134 ?_
  refine lv_iload X.1 X.2.1 dX7_shown_135 (lv_at hl 3 rfl) ?_
  refine lv_iadd X.1 X.2.1 dX7_shown_137 ?_
  obtain ⟨g138, hw⟩ := hw
  refine ra_text X.1 X.2.1 hK hO g138 dX7_shown_138 ?_
  refine lv_i2l X.1 X.2.1 dX7_shown_139 rfl ?_
  refine lv_ladd X.1 X.2.1 dX7_shown_140 ?_
  exact W.lret (v := ((y0 * (4294967296 : Int64)) + ((σ.2 8 (((13 : Int32) * x1) + x4).toNatClampNeg).toInt64))) X.1 X.2.1 hr (fun t ht hW => ⟨⟨((y0 * (4294967296 : Int64)) + ((σ.2 8 (((13 : Int32) * x1) + x4).toNatClampNeg).toInt64)), σ, rfl, hw, rO_end hO hK ht hW⟩, hO.2.2.F ht⟩) hO.2.2.2.2 dX7_shown_141 hlk
def R_shown_b43_s (Q : Int64 → rS → Prop) (K43 : Int32 → Int32 → Int64 → Int32 → rS → Prop) (x1 : Int32) (x4 : Int32) (x5 : Int64) (x7 : Int32) (σ : rS) : Prop :=
 ((4 : Int32) < x7 → Q ((4294967296 : Int64) + x5) σ) ∧ (¬ (4 : Int32) < x7 → vp_in (((13 : Int32) * x1) + x4) 208 ∧ vp_in ((σ.2 7 (((13 : Int32) * x1) + x4).toNatClampNeg) + x7) 1920 ∧ ∀ v77 : Int64, v77 = (((256 : Int64) * x5) + ((σ.2 2 ((σ.2 7 (((13 : Int32) * x1) + x4).toNatClampNeg) + x7).toNatClampNeg).toInt64)) → ∀ v79 : Int32, v79 = x7 + (1 : Int32) → K43 x1 x4 v77 v79 σ)
def R_shown_b43_f (Q : Int64 → rS → Prop) : (Int32 × Int32 × Int64 × Int32 × rS → Prop) → Int32 × Int32 × Int64 × Int32 × rS → Prop :=
 fun K z => R_shown_b43_s Q (fun x1 x4 x5 x7 σ => K (x1, x4, x5, x7, σ)) z.1 z.2.1 z.2.2.1 z.2.2.2.1 z.2.2.2.2
def R_shown_b43 (Q : Int64 → rS → Prop) (x1 : Int32) (x4 : Int32) (x5 : Int64) (x7 : Int32) (σ : rS) : Prop := ∃ n, fx (R_shown_b43_f Q ) n (x1, x4, x5, x7, σ)
set_option maxHeartbeats 4000000 in
set_option maxRecDepth 100000 in
theorem rB_shown_43 {Q : Int64 → rS → Prop} (X : CallFix p m c cX7_shown 8 s args wsX7_shown RX7) (hr : meth.sig.returnType = (some .long)) (hlk : meth.locks = false) (hR : 0 ≤ R.frames ∧ 0 ≤ R.locals) (hK : va_K (dC, dI) vwCl [(cI, .int), (cZ, .boolean)] s) (hA : ∀ q, s.heap.size ≤ q → A q) : ∀ (n : Nat) (x1 : Int32) (x4 : Int32) (x5 : Int64) (x7 : Int32) (σ : rS) (H : Heap) (locs : List Loc) (ls : Array Slot), lv_has ls 8 [(0, .ref h), (1, .int x1), (4, .int x4), (5, .long x5), (7, .int x7)] → rO dC dI h a cI cZ A s.heap σ H locs → fx (R_shown_b43_f Q ) n (x1, x4, x5, x7, σ) → W p l e R s m args below meth c H locs 0 0 (MQ below (va_Ql Q (rAt dC dI A h a cI cZ) A) args s 0 0 A) (F0 m 43 ls []) := by
  intro n
  induction n with
  | zero => intro x1 x4 x5 x7 σ H locs ls hl hO hw; exact False.elim hw
  | succ n k43 =>
    intro x1 x4 x5 x7 σ H locs ls hl hO hw
    have hw : R_shown_b43_s Q (fun x1 x4 x5 x7 σ => fx (R_shown_b43_f Q ) n (x1, x4, x5, x7, σ)) x1 x4 x5 x7 σ := hw
    unfold R_shown_b43_s at hw
    refine lv_iload X.1 X.2.1 dX7_shown_43 (lv_at hl 4 rfl) ?_
    refine lv_iconst (v := 4) X.1 X.2.1 dX7_shown_45 (by decide) ?_
    refine lv_icmp_gt (tgt := 85) X.1 X.2.1 dX7_shown_46 rfl (fun hc9 => ?_) (fun hc9 => ?_)
    · have hw := hw.1 hc9
      refine lv_ldc2 (v := 4294967296) X.1 X.2.1 X.2.2.2.1 (X.2.2.2.2 _ (List.mem_cons_of_mem _ qX7_185)) dX7_shown_85 ?_
      refine lv_lload X.1 X.2.1 dX7_shown_88 (lv_at hl 3 rfl) ?_
      refine lv_ladd X.1 X.2.1 dX7_shown_90 ?_
      exact W.lret (v := ((4294967296 : Int64) + x5)) X.1 X.2.1 hr (fun t ht hW => ⟨⟨((4294967296 : Int64) + x5), σ, rfl, hw, rO_end hO hK ht hW⟩, hO.2.2.F ht⟩) hO.2.2.2.2 dX7_shown_91 hlk
    · have hw := hw.2 hc9
      refine lv_ldc2 (v := 256) X.1 X.2.1 X.2.2.2.1 (X.2.2.2.2 _ (List.mem_cons_of_mem _ qX7_183)) dX7_shown_49 ?_
      refine lv_lload X.1 X.2.1 dX7_shown_52 (lv_at hl 3 rfl) ?_
      refine lv_lmul X.1 X.2.1 dX7_shown_54 ?_
      refine lv_aload_n X.1 X.2.1 dX7_shown_55 rfl (lv_at hl 0 rfl) ?_
      refine rf_bytes X hK hO dX7_shown_56 ?_
      refine lv_aload_n X.1 X.2.1 dX7_shown_59 rfl (lv_at hl 0 rfl) ?_
      refine rf_place X hK hO dX7_shown_60 ?_
      refine lv_bipush (v := 13) X.1 X.2.1 dX7_shown_63 (by decide) ?_
      refine lv_iload_n X.1 X.2.1 dX7_shown_65 rfl (lv_at hl 1 rfl) ?_
      refine lv_imul X.1 X.2.1 dX7_shown_66 ?_
      refine lv_iload X.1 X.2.1 dX7_shown_67 (lv_at hl 2 rfl) ?_
      refine lv_iadd X.1 X.2.1 dX7_shown_69 ?_
      obtain ⟨g70, hw⟩ := hw
      refine ra_place X.1 X.2.1 hK hO g70 dX7_shown_70 ?_
      refine lv_iload X.1 X.2.1 dX7_shown_71 (lv_at hl 4 rfl) ?_
      refine lv_iadd X.1 X.2.1 dX7_shown_73 ?_
      obtain ⟨g74, hw⟩ := hw
      refine ra_bytes X.1 X.2.1 hK hO g74 dX7_shown_74 ?_
      refine lv_i2l X.1 X.2.1 dX7_shown_75 rfl ?_
      refine lv_ladd X.1 X.2.1 dX7_shown_76 ?_
      refine lv_topl (fun v77 e77 => ?_)
      have hw := hw v77 e77
      refine lv_lstore (lv' := [(5, .long v77), (0, .ref h), (1, .int x1), (4, .int x4), (7, .int x7)]) X.1 X.2.1 dX7_shown_77 hl (by decide) rfl (fun ls hl => ?_)
      obtain ⟨v79, e79⟩ : ∃ z, z = x7 + (1 : Int32) := ⟨_, rfl⟩
      have hw := hw v79 e79
      refine lv_iinc (lv' := [(7, .int v79), (5, .long v77), (0, .ref h), (1, .int x1), (4, .int x4)]) (k := 4) (v := v79) X.1 X.2.1 dX7_shown_79 hl rfl (by rw [e79]; rfl) (by decide) rfl (fun ls hl => ?_)
      refine lv_goto (tgt := 43) X.1 X.2.1 dX7_shown_82 rfl ?_
      exact k43 x1 x4 v77 v79 σ H locs ls (lv_sub hl [2, 3, 4, 1, 0] rfl) hO hw
def R_shown_b0 (Q : Int64 → rS → Prop) (x1 : Int32) (x2 : Int32) (σ : rS) : Prop :=
 vp_in x2 1920 ∧ ∀ v6 : Int32, v6 = (σ.2 2 x2.toNatClampNeg) → vp_in (x2 + (1 : Int32)) 1920 ∧ ∀ v15 : Int32, v15 = (σ.2 2 (x2 + (1 : Int32)).toNatClampNeg) → (¬ v6 = (91 : Int32) → (¬ v6 = (73 : Int32) → (¬ v6 = (115 : Int32) → (¬ v6 = (99 : Int32) → R_shown_b119 Q x1 v15 (5 : Int64) σ) ∧ (v6 = (99 : Int32) → R_shown_b119 Q x1 v15 (3 : Int64) σ)) ∧ (v6 = (115 : Int32) → R_shown_b119 Q x1 v15 (2 : Int64) σ)) ∧ (v6 = (73 : Int32) → R_shown_b43 Q x1 v15 (0 : Int64) (1 : Int32) σ)) ∧ (v6 = (91 : Int32) → Q ((17179869184 : Int64) + (v15.toInt64)) σ)
set_option maxHeartbeats 4000000 in
set_option maxRecDepth 100000 in
theorem rB_shown_0 {Q : Int64 → rS → Prop} (X : CallFix p m c cX7_shown 8 s args wsX7_shown RX7) (hr : meth.sig.returnType = (some .long)) (hlk : meth.locks = false) (hR : 0 ≤ R.frames ∧ 0 ≤ R.locals) (hK : va_K (dC, dI) vwCl [(cI, .int), (cZ, .boolean)] s) (hA : ∀ q, s.heap.size ≤ q → A q) (x1 : Int32) (x2 : Int32) (σ : rS) (H : Heap) (locs : List Loc) (ls : Array Slot) (hl : lv_has ls 8 [(0, .ref h), (1, .int x1), (2, .int x2)]) (hO : rO dC dI h a cI cZ A s.heap σ H locs) (hw : R_shown_b0 Q x1 x2 σ) : W p l e R s m args below meth c H locs 0 0 (MQ below (va_Ql Q (rAt dC dI A h a cI cZ) A) args s 0 0 A) (F0 m 0 ls []) := by
  unfold R_shown_b0 at hw
  refine lv_aload_n X.1 X.2.1 dX7_shown_0 rfl (lv_at hl 0 rfl) ?_
  refine rf_bytes X hK hO dX7_shown_1 ?_
  refine lv_iload_n X.1 X.2.1 dX7_shown_4 rfl (lv_at hl 2 rfl) ?_
  obtain ⟨g5, hw⟩ := hw
  refine ra_bytes X.1 X.2.1 hK hO g5 dX7_shown_5 ?_
  refine lv_topi (fun v6 e6 => ?_)
  have hw := hw v6 e6
  refine lv_istore_n (lv' := [(3, .int v6), (0, .ref h), (1, .int x1), (2, .int x2)]) X.1 X.2.1 dX7_shown_6 rfl hl (by decide) rfl (fun ls hl => ?_)
  refine lv_aload_n X.1 X.2.1 dX7_shown_7 rfl (lv_at hl 1 rfl) ?_
  refine rf_bytes X hK hO dX7_shown_8 ?_
  refine lv_iload_n X.1 X.2.1 dX7_shown_11 rfl (lv_at hl 3 rfl) ?_
  refine lv_iconst (v := 1) X.1 X.2.1 dX7_shown_12 (by decide) ?_
  refine lv_iadd X.1 X.2.1 dX7_shown_13 ?_
  obtain ⟨g14, hw⟩ := hw
  refine ra_bytes X.1 X.2.1 hK hO g14 dX7_shown_14 ?_
  refine lv_topi (fun v15 e15 => ?_)
  have hw := hw v15 e15
  refine lv_istore (lv' := [(4, .int v15), (3, .int v6), (0, .ref h), (1, .int x1), (2, .int x2)]) X.1 X.2.1 dX7_shown_15 hl (by decide) rfl (fun ls hl => ?_)
  refine lv_iload_n X.1 X.2.1 dX7_shown_17 rfl (lv_at hl 1 rfl) ?_
  refine lv_bipush (v := 91) X.1 X.2.1 dX7_shown_18 (by decide) ?_
  refine lv_icmp_ne (tgt := 31) X.1 X.2.1 dX7_shown_20 rfl (fun hc9 => ?_) (fun hc9 => ?_)
  · have hw := hw.1 hc9
    refine lv_iload_n X.1 X.2.1 dX7_shown_31 rfl (lv_at hl 1 rfl) ?_
    refine lv_bipush (v := 73) X.1 X.2.1 dX7_shown_32 (by decide) ?_
    refine lv_icmp_ne (tgt := 92) X.1 X.2.1 dX7_shown_34 rfl (fun hc9 => ?_) (fun hc9 => ?_)
    · have hw := hw.1 hc9
      refine lv_iload_n X.1 X.2.1 dX7_shown_92 rfl (lv_at hl 1 rfl) ?_
      refine lv_bipush (v := 115) X.1 X.2.1 dX7_shown_93 (by decide) ?_
      refine lv_icmp_ne (tgt := 104) X.1 X.2.1 dX7_shown_95 rfl (fun hc9 => ?_) (fun hc9 => ?_)
      · have hw := hw.1 hc9
        refine lv_iload_n X.1 X.2.1 dX7_shown_104 rfl (lv_at hl 1 rfl) ?_
        refine lv_bipush (v := 99) X.1 X.2.1 dX7_shown_105 (by decide) ?_
        refine lv_icmp_ne (tgt := 116) X.1 X.2.1 dX7_shown_107 rfl (fun hc9 => ?_) (fun hc9 => ?_)
        · have hw := hw.1 hc9
          refine lv_ldc2 (v := 5) X.1 X.2.1 X.2.2.2.1 (X.2.2.2.2 _ (List.mem_cons_of_mem _ qX7_191)) dX7_shown_116 ?_
          exact rB_shown_119 X hr hlk hR hK hA x1 v15 (5 : Int64) σ H locs ls (lv_sub hl [2, 3, 0] rfl) hO hw
        · have hw := hw.2 hc9
          refine lv_ldc2 (v := 3) X.1 X.2.1 X.2.2.2.1 (X.2.2.2.2 _ (List.mem_cons_of_mem _ qX7_189)) dX7_shown_110 ?_
          refine lv_goto (tgt := 119) X.1 X.2.1 dX7_shown_113 rfl ?_
          exact rB_shown_119 X hr hlk hR hK hA x1 v15 (3 : Int64) σ H locs ls (lv_sub hl [2, 3, 0] rfl) hO hw
      · have hw := hw.2 hc9
        refine lv_ldc2 (v := 2) X.1 X.2.1 X.2.2.2.1 (X.2.2.2.2 _ (List.mem_cons_of_mem _ qX7_187)) dX7_shown_98 ?_
        refine lv_goto (tgt := 119) X.1 X.2.1 dX7_shown_101 rfl ?_
        exact rB_shown_119 X hr hlk hR hK hA x1 v15 (2 : Int64) σ H locs ls (lv_sub hl [2, 3, 0] rfl) hO hw
    · have hw := hw.2 hc9
      refine lv_lconst (v := 0) X.1 X.2.1 dX7_shown_37 (by decide) ?_
      refine lv_lstore (lv' := [(5, .long (0 : Int64)), (4, .int v15), (3, .int v6), (0, .ref h), (1, .int x1), (2, .int x2)]) X.1 X.2.1 dX7_shown_38 hl (by decide) rfl (fun ls hl => ?_)
      refine lv_iconst (v := 1) X.1 X.2.1 dX7_shown_40 (by decide) ?_
      refine lv_istore (lv' := [(7, .int (1 : Int32)), (5, .long (0 : Int64)), (4, .int v15), (3, .int v6), (0, .ref h), (1, .int x1), (2, .int x2)]) X.1 X.2.1 dX7_shown_41 hl (by decide) rfl (fun ls hl => ?_)
      obtain ⟨n, hw⟩ := hw
      exact rB_shown_43 X hr hlk hR hK hA n x1 v15 (0 : Int64) (1 : Int32) σ H locs ls (lv_sub hl [4, 5, 2, 1, 0] rfl) hO hw
  · have hw := hw.2 hc9
    refine lv_ldc2 (v := 17179869184) X.1 X.2.1 X.2.2.2.1 (X.2.2.2.2 _ (List.mem_cons_of_mem _ qX7_181)) dX7_shown_23 ?_
    refine lv_iload X.1 X.2.1 dX7_shown_26 (lv_at hl 0 rfl) ?_
    refine lv_i2l X.1 X.2.1 dX7_shown_28 rfl ?_
    refine lv_ladd X.1 X.2.1 dX7_shown_29 ?_
    exact W.lret (v := ((17179869184 : Int64) + (v15.toInt64))) X.1 X.2.1 hr (fun t ht hW => ⟨⟨((17179869184 : Int64) + (v15.toInt64)), σ, rfl, hw, rO_end hO hK ht hW⟩, hO.2.2.F ht⟩) hO.2.2.2.2 dX7_shown_30 hlk
def R_shown_w (Q : Int64 → rS → Prop) (x1 : Int32) (x2 : Int32) (σ : rS) : Prop := R_shown_b0 Q x1 x2 σ
abbrev rmX7_shown : Room := { frames := 0, cells := 0, slots := 0, locals := 0 }
set_option maxHeartbeats 4000000 in
set_option maxRecDepth 100000 in
theorem rC_shown (l : Launch) (dC : Nat → ClassId) (dI : Nat → Nat → Nat) (h : Nat) (a : Nat → Nat) (cI cZ : ClassId) (σ : rS) (sz : Nat) (x1 : Int32) (x2 : Int32) (Q : Int64 → rS → Prop) (hw : R_shown_w Q x1 x2 σ) : Met l yX7_shown wsX7_shown rmX7_shown (rPc dC dI h a cI cZ sz σ [.ref h, .int x1, .int x2]) (va_Ql Q (rAt dC dI (va_A (rCells h a cI cZ σ) sz) h a cI cZ) (va_A (rCells h a cI cZ σ) sz)) 0 0 (va_A (rCells h a cI cZ σ) sz) := by
  refine Met.ofW (cc := cX7_shown) (maxL := 8) (ret := (some .long)) (by decide) rfl ?_
  intro p e s m args below meth c s₁ B hml hv
  obtain ⟨hargs, hsz, hP, hK, hD0⟩ := hv
  have hts := atoms_spec (ws := wsX7_shown) B.pre
  have hown : s.vm.findClass RX7 = some m.cls := findClass_of_methodNamed B.named
  subst hsz
  subst hargs
  have hD := hD0.self (sz := s.heap.size)
  generalize hAe : va_A (rCells h a cI cZ σ) s.heap.size = A at hD ⊢
  have hA : ∀ q : Nat, s.heap.size ≤ q → A q := fun q h => by rw [← hAe]; exact Or.inr h
  have hl := lv_entry ([.ref h, .int x1, .int x2]) (n := 8) (Nat.le_of_ble_eq_true rfl)
  rw [lg_entry_eq]
  generalize (lg_sl ([.ref h, .int x1, .int x2]) ++ List.replicate (8 - (lg_sl ([.ref h, .int x1, .int x2])).length) Slot.unset).toArray = ls at hl ⊢
  have hl : lv_has ls 8 [(0, .ref h), (1, .int x1), (2, .int x2)] := hl
  unfold R_shown_w at hw
  exact rB_shown_0 ⟨B.exec, B.bytes, hml, hown, hts⟩ B.returns B.notSynchronized ⟨Nat.le_of_ble_eq_true rfl, Nat.le_of_ble_eq_true rfl⟩ hK hA x1 x2 σ s.heap [] ls (lv_sub hl [0, 1, 2] rfl) ⟨hP, hD, va_S.rf⟩ hw
end
