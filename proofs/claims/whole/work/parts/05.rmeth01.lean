section
variable {p : Program} {l : Launch} {e : Env} {R : Room} {s : State} {m : MethodId} {args : Array Value} {below : List Frame} {meth : Method} {c : Code}
variable {dC : Nat → ClassId} {dI : Nat → Nat → Nat} {h : Nat} {a : Nat → Nat} {cI cZ : ClassId} {A : Nat → Prop}
def R_oneConstant_b173 (Q : rS → Prop) (σ : rS) : Prop :=
 Q σ
set_option maxHeartbeats 4000000 in
set_option maxRecDepth 100000 in
theorem rB_oneConstant_173 {Q : rS → Prop} (X : CallFix p m c cX7_oneConstant 8 s args wsX7_oneConstant RX7) (hr : meth.sig.returnType = none) (hlk : meth.locks = false) (hR : 3 ≤ R.frames ∧ 66 ≤ R.locals) (hK : va_K (dC, dI) vwCl [(cI, .int), (cZ, .boolean)] s) (hA : ∀ q, s.heap.size ≤ q → A q) (σ : rS) (H : Heap) (locs : List Loc) (ls : Array Slot) (hl : lv_has ls 8 [(0, .ref h)]) (hO : rO dC dI h a cI cZ A s.heap σ H locs) (hw : R_oneConstant_b173 Q σ) : W p l e R s m args below meth c H locs 0 0 (MQ below (va_Qv Q (rAt dC dI A h a cI cZ) A) args s 0 0 A) (F0 m 173 ls []) := by
  unfold R_oneConstant_b173 at hw
  exact W.vret X.1 X.2.1 hr (fun t ht hW => ⟨⟨σ, rfl, hw, rO_end hO hK ht hW⟩, hO.2.2.F ht⟩) hO.2.2.2.2 dX7_oneConstant_173 hlk
def R_oneConstant_b133_s (Q : rS → Prop) (K133 : Int32 → rS → Prop) (x4 : Int32) (σ : rS) : Prop :=
 ((4 : Int32) ≤ x4 → R_oneConstant_b173 Q σ) ∧ (¬ (4 : Int32) ≤ x4 → R_take_w (fun r140 t140 => ∀ v144 : Int32, v144 = x4 + (1 : Int32) → K133 v144 t140) σ)
def R_oneConstant_b133_f (Q : rS → Prop) : (Int32 × rS → Prop) → Int32 × rS → Prop :=
 fun K z => R_oneConstant_b133_s Q (fun x4 σ => K (x4, σ)) z.1 z.2
def R_oneConstant_b133 (Q : rS → Prop) (x4 : Int32) (σ : rS) : Prop := ∃ n, fx (R_oneConstant_b133_f Q ) n (x4, σ)
set_option maxHeartbeats 4000000 in
set_option maxRecDepth 100000 in
theorem rB_oneConstant_133 {Q : rS → Prop} (X : CallFix p m c cX7_oneConstant 8 s args wsX7_oneConstant RX7) (hr : meth.sig.returnType = none) (hlk : meth.locks = false) (hR : 3 ≤ R.frames ∧ 66 ≤ R.locals) (hK : va_K (dC, dI) vwCl [(cI, .int), (cZ, .boolean)] s) (hA : ∀ q, s.heap.size ≤ q → A q) : ∀ (n : Nat) (x4 : Int32) (σ : rS) (H : Heap) (locs : List Loc) (ls : Array Slot), lv_has ls 8 [(0, .ref h), (4, .int x4)] → rO dC dI h a cI cZ A s.heap σ H locs → fx (R_oneConstant_b133_f Q ) n (x4, σ) → W p l e R s m args below meth c H locs 0 0 (MQ below (va_Qv Q (rAt dC dI A h a cI cZ) A) args s 0 0 A) (F0 m 133 ls []) := by
  intro n
  induction n with
  | zero => intro x4 σ H locs ls hl hO hw; exact False.elim hw
  | succ n k133 =>
    intro x4 σ H locs ls hl hO hw
    have hw : R_oneConstant_b133_s Q (fun x4 σ => fx (R_oneConstant_b133_f Q ) n (x4, σ)) x4 σ := hw
    unfold R_oneConstant_b133_s at hw
    refine lv_iload X.1 X.2.1 dX7_oneConstant_133 (lv_at hl 1 rfl) ?_
    refine lv_iconst (v := 4) X.1 X.2.1 dX7_oneConstant_135 (by decide) ?_
    refine lv_icmp_ge (tgt := 150) X.1 X.2.1 dX7_oneConstant_136 rfl (fun hc9 => ?_) (fun hc9 => ?_)
    · have hw := hw.1 hc9
      refine lv_goto (tgt := 173) X.1 X.2.1 dX7_oneConstant_150 rfl ?_
      exact rB_oneConstant_173 X hr hlk hR hK hA σ H locs ls (lv_sub hl [0] rfl) hO hw
    · have hw := hw.2 hc9
      refine lv_aload_n X.1 X.2.1 dX7_oneConstant_139 rfl (lv_at hl 0 rfl) ?_
      refine r_calli (rest := []) (As := []) X (rC_take l dC dI h a cI cZ σ H.size _ hw) (cwV 0 X.2.2.2.2 gX7_take rfl rfl rfl hdX7_take ⟨Nat.le_trans (by decide) hR.1, Nat.le_trans (by decide) hR.2⟩) hK hA hO rfl hl.1 rfl (Nat.le_of_ble_eq_true rfl) dX7_oneConstant_140 (fun r140 t140 H locs hO hw => ?_)
      refine lv_pop X.1 X.2.1 dX7_oneConstant_143 rfl ?_
      obtain ⟨v144, e144⟩ : ∃ z, z = x4 + (1 : Int32) := ⟨_, rfl⟩
      have hw := hw v144 e144
      refine lv_iinc (lv' := [(4, .int v144), (0, .ref h)]) (k := 1) (v := v144) X.1 X.2.1 dX7_oneConstant_144 hl rfl (by rw [e144]; rfl) (by decide) rfl (fun ls hl => ?_)
      refine lv_goto (tgt := 133) X.1 X.2.1 dX7_oneConstant_147 rfl ?_
      exact k133 v144 t140 H locs ls (lv_sub hl [1, 0] rfl) hO hw
def R_oneConstant_b116 (Q : rS → Prop) (K69 : Int32 → Int32 → rS → Prop) (x4 : Int32) (x5 : Int32) (σ : rS) : Prop :=
 ∀ v116 : Int32, v116 = x5 + (1 : Int32) → K69 x4 v116 σ
set_option maxHeartbeats 4000000 in
set_option maxRecDepth 100000 in
theorem rB_oneConstant_116 {Q : rS → Prop} {K69 : Int32 → Int32 → rS → Prop} (X : CallFix p m c cX7_oneConstant 8 s args wsX7_oneConstant RX7) (hr : meth.sig.returnType = none) (hlk : meth.locks = false) (hR : 3 ≤ R.frames ∧ 66 ≤ R.locals) (hK : va_K (dC, dI) vwCl [(cI, .int), (cZ, .boolean)] s) (hA : ∀ q, s.heap.size ≤ q → A q) (k69 : ∀ (x4 : Int32) (x5 : Int32) (σ : rS) (H : Heap) (locs : List Loc) (ls : Array Slot), lv_has ls 8 [(0, .ref h), (4, .int x4), (5, .int x5)] → rO dC dI h a cI cZ A s.heap σ H locs → K69 x4 x5 σ → W p l e R s m args below meth c H locs 0 0 (MQ below (va_Qv Q (rAt dC dI A h a cI cZ) A) args s 0 0 A) (F0 m 69 ls [])) (x4 : Int32) (x5 : Int32) (σ : rS) (H : Heap) (locs : List Loc) (ls : Array Slot) (hl : lv_has ls 8 [(0, .ref h), (4, .int x4), (5, .int x5)]) (hO : rO dC dI h a cI cZ A s.heap σ H locs) (hw : R_oneConstant_b116 Q K69 x4 x5 σ) : W p l e R s m args below meth c H locs 0 0 (MQ below (va_Qv Q (rAt dC dI A h a cI cZ) A) args s 0 0 A) (F0 m 116 ls []) := by
  unfold R_oneConstant_b116 at hw
  obtain ⟨v116, e116⟩ : ∃ z, z = x5 + (1 : Int32) := ⟨_, rfl⟩
  have hw := hw v116 e116
  refine lv_iinc (lv' := [(5, .int v116), (0, .ref h), (4, .int x4)]) (k := 2) (v := v116) X.1 X.2.1 dX7_oneConstant_116 hl rfl (by rw [e116]; rfl) (by decide) rfl (fun ls hl => ?_)
  refine lv_goto (tgt := 69) X.1 X.2.1 dX7_oneConstant_119 rfl ?_
  exact k69 x4 v116 σ H locs ls (lv_sub hl [1, 2, 0] rfl) hO hw
def R_oneConstant_b109 (Q : rS → Prop) (K69 : Int32 → Int32 → rS → Prop) (x4 : Int32) (x5 : Int32) (x6 : Int32) (σ : rS) : Prop :=
 R_fail_w (fun t113 => R_oneConstant_b116 Q K69 x4 x5 t113) (5 : Int32) x6 σ
set_option maxHeartbeats 4000000 in
set_option maxRecDepth 100000 in
theorem rB_oneConstant_109 {Q : rS → Prop} {K69 : Int32 → Int32 → rS → Prop} (X : CallFix p m c cX7_oneConstant 8 s args wsX7_oneConstant RX7) (hr : meth.sig.returnType = none) (hlk : meth.locks = false) (hR : 3 ≤ R.frames ∧ 66 ≤ R.locals) (hK : va_K (dC, dI) vwCl [(cI, .int), (cZ, .boolean)] s) (hA : ∀ q, s.heap.size ≤ q → A q) (k69 : ∀ (x4 : Int32) (x5 : Int32) (σ : rS) (H : Heap) (locs : List Loc) (ls : Array Slot), lv_has ls 8 [(0, .ref h), (4, .int x4), (5, .int x5)] → rO dC dI h a cI cZ A s.heap σ H locs → K69 x4 x5 σ → W p l e R s m args below meth c H locs 0 0 (MQ below (va_Qv Q (rAt dC dI A h a cI cZ) A) args s 0 0 A) (F0 m 69 ls [])) (x4 : Int32) (x5 : Int32) (x6 : Int32) (σ : rS) (H : Heap) (locs : List Loc) (ls : Array Slot) (hl : lv_has ls 8 [(0, .ref h), (4, .int x4), (5, .int x5), (6, .int x6)]) (hO : rO dC dI h a cI cZ A s.heap σ H locs) (hw : R_oneConstant_b109 Q K69 x4 x5 x6 σ) : W p l e R s m args below meth c H locs 0 0 (MQ below (va_Qv Q (rAt dC dI A h a cI cZ) A) args s 0 0 A) (F0 m 109 ls []) := by
  unfold R_oneConstant_b109 at hw
  refine lv_aload_n X.1 X.2.1 dX7_oneConstant_109 rfl (lv_at hl 0 rfl) ?_
  refine lv_iconst (v := 5) X.1 X.2.1 dX7_oneConstant_110 (by decide) ?_
  refine lv_iload X.1 X.2.1 dX7_oneConstant_111 (lv_at hl 3 rfl) ?_
  refine r_callv (rest := []) (As := [.int (5 : Int32), .int x6]) X (rC_fail l dC dI h a cI cZ σ H.size (5 : Int32) x6 _ hw) (cwV 2 X.2.2.2.2 gX7_fail rfl rfl rfl hdX7_fail ⟨Nat.le_trans (by decide) hR.1, Nat.le_trans (by decide) hR.2⟩) hK hA hO rfl hl.1 rfl (Nat.le_of_ble_eq_true rfl) dX7_oneConstant_113 (fun t113 H locs hO hw => ?_)
  exact rB_oneConstant_116 X hr hlk hR hK hA k69 x4 x5 t113 H locs ls (lv_sub hl [0, 1, 2] rfl) hO hw
def R_oneConstant_b69_s (Q : rS → Prop) (K69 : Int32 → Int32 → rS → Prop) (x4 : Int32) (x5 : Int32) (σ : rS) : Prop :=
 (x4 ≤ x5 → R_oneConstant_b173 Q σ) ∧ (¬ x4 ≤ x5 → ∀ v80 : Int32, v80 = (σ.1 21) → R_take_w (fun r83 t83 => (¬ (t83.1 23) = 0 → R_oneConstant_b116 Q K69 x4 x5 t83) ∧ ((t83.1 23) = 0 → (r83 < (33 : Int32) → R_oneConstant_b109 Q K69 x4 x5 v80 t83) ∧ (¬ r83 < (33 : Int32) → (r83 ≤ (126 : Int32) → R_oneConstant_b116 Q K69 x4 x5 t83) ∧ (¬ r83 ≤ (126 : Int32) → R_oneConstant_b109 Q K69 x4 x5 v80 t83)))) σ)
def R_oneConstant_b69_f (Q : rS → Prop) : (Int32 × Int32 × rS → Prop) → Int32 × Int32 × rS → Prop :=
 fun K z => R_oneConstant_b69_s Q (fun x4 x5 σ => K (x4, x5, σ)) z.1 z.2.1 z.2.2
def R_oneConstant_b69 (Q : rS → Prop) (x4 : Int32) (x5 : Int32) (σ : rS) : Prop := ∃ n, fx (R_oneConstant_b69_f Q ) n (x4, x5, σ)
set_option maxHeartbeats 4000000 in
set_option maxRecDepth 100000 in
theorem rB_oneConstant_69 {Q : rS → Prop} (X : CallFix p m c cX7_oneConstant 8 s args wsX7_oneConstant RX7) (hr : meth.sig.returnType = none) (hlk : meth.locks = false) (hR : 3 ≤ R.frames ∧ 66 ≤ R.locals) (hK : va_K (dC, dI) vwCl [(cI, .int), (cZ, .boolean)] s) (hA : ∀ q, s.heap.size ≤ q → A q) : ∀ (n : Nat) (x4 : Int32) (x5 : Int32) (σ : rS) (H : Heap) (locs : List Loc) (ls : Array Slot), lv_has ls 8 [(0, .ref h), (4, .int x4), (5, .int x5)] → rO dC dI h a cI cZ A s.heap σ H locs → fx (R_oneConstant_b69_f Q ) n (x4, x5, σ) → W p l e R s m args below meth c H locs 0 0 (MQ below (va_Qv Q (rAt dC dI A h a cI cZ) A) args s 0 0 A) (F0 m 69 ls []) := by
  intro n
  induction n with
  | zero => intro x4 x5 σ H locs ls hl hO hw; exact False.elim hw
  | succ n k69 =>
    intro x4 x5 σ H locs ls hl hO hw
    have hw : R_oneConstant_b69_s Q (fun x4 x5 σ => fx (R_oneConstant_b69_f Q ) n (x4, x5, σ)) x4 x5 σ := hw
    unfold R_oneConstant_b69_s at hw
    refine lv_iload X.1 X.2.1 dX7_oneConstant_69 (lv_at hl 2 rfl) ?_
    refine lv_iload X.1 X.2.1 dX7_oneConstant_71 (lv_at hl 1 rfl) ?_
    refine lv_icmp_ge (tgt := 122) X.1 X.2.1 dX7_oneConstant_73 rfl (fun hc9 => ?_) (fun hc9 => ?_)
    · have hw := hw.1 hc9
      refine lv_goto (tgt := 173) X.1 X.2.1 dX7_oneConstant_122 rfl ?_
      exact rB_oneConstant_173 X hr hlk hR hK hA σ H locs ls (lv_sub hl [0] rfl) hO hw
    · have hw := hw.2 hc9
      refine lv_aload_n X.1 X.2.1 dX7_oneConstant_76 rfl (lv_at hl 0 rfl) ?_
      refine rf_at X hK hO dX7_oneConstant_77 ?_
      refine lv_topi (fun v80 e80 => ?_)
      have hw := hw v80 e80
      refine lv_istore (lv' := [(6, .int v80), (0, .ref h), (4, .int x4), (5, .int x5)]) X.1 X.2.1 dX7_oneConstant_80 hl (by decide) rfl (fun ls hl => ?_)
      refine lv_aload_n X.1 X.2.1 dX7_oneConstant_82 rfl (lv_at hl 1 rfl) ?_
      refine r_calli (rest := []) (As := []) X (rC_take l dC dI h a cI cZ σ H.size _ hw) (cwV 0 X.2.2.2.2 gX7_take rfl rfl rfl hdX7_take ⟨Nat.le_trans (by decide) hR.1, Nat.le_trans (by decide) hR.2⟩) hK hA hO rfl hl.1 rfl (Nat.le_of_ble_eq_true rfl) dX7_oneConstant_83 (fun r83 t83 H locs hO hw => ?_)
      refine lv_istore (lv' := [(7, .int r83), (6, .int v80), (0, .ref h), (4, .int x4), (5, .int x5)]) X.1 X.2.1 dX7_oneConstant_86 hl (by decide) rfl (fun ls hl => ?_)
      refine lv_aload_n X.1 X.2.1 dX7_oneConstant_88 rfl (lv_at hl 2 rfl) ?_
      refine rf_reason X hK hO dX7_oneConstant_89 ?_
      refine lv_if_ne (tgt := 116) X.1 X.2.1 dX7_oneConstant_92 rfl (fun hc9 => ?_) (fun hc9 => ?_)
      · have hw := hw.1 hc9
        exact rB_oneConstant_116 X hr hlk hR hK hA k69 x4 x5 t83 H locs ls (lv_sub hl [2, 3, 4] rfl) hO hw
      · have hw := hw.2 hc9
        refine lv_iload X.1 X.2.1 dX7_oneConstant_95 (lv_at hl 0 rfl) ?_
        refine lv_bipush (v := 33) X.1 X.2.1 dX7_oneConstant_97 (by decide) ?_
        refine lv_icmp_lt (tgt := 109) X.1 X.2.1 dX7_oneConstant_99 rfl (fun hc9 => ?_) (fun hc9 => ?_)
        · have hw := hw.1 hc9
          exact rB_oneConstant_109 X hr hlk hR hK hA k69 x4 x5 v80 t83 H locs ls (lv_sub hl [2, 3, 4, 1] rfl) hO hw
        · have hw := hw.2 hc9
          refine lv_iload X.1 X.2.1 dX7_oneConstant_102 (lv_at hl 0 rfl) ?_
          refine lv_bipush (v := 126) X.1 X.2.1 dX7_oneConstant_104 (by decide) ?_
          refine lv_icmp_le (tgt := 116) X.1 X.2.1 dX7_oneConstant_106 rfl (fun hc9 => ?_) (fun hc9 => ?_)
          · have hw := hw.1 hc9
            exact rB_oneConstant_116 X hr hlk hR hK hA k69 x4 x5 t83 H locs ls (lv_sub hl [2, 3, 4] rfl) hO hw
          · have hw := hw.2 hc9
            exact rB_oneConstant_109 X hr hlk hR hK hA k69 x4 x5 v80 t83 H locs ls (lv_sub hl [2, 3, 4, 1] rfl) hO hw
def R_oneConstant_b0 (Q : rS → Prop) (x1 : Int32) (σ : rS) : Prop :=
 ∀ v4 : Int32, v4 = (σ.1 21) → R_take_w (fun r6 t6 => ((t6.1 23) = 0 → vp_in (((13 : Int32) * (t6.1 18)) + x1) 208 ∧ ∀ t32 : rS, t32 = rA t6 6 (((13 : Int32) * (t6.1 18)) + x1) r6 → vp_in (((13 : Int32) * (t32.1 18)) + x1) 208 ∧ ∀ t52 : rS, t52 = rA t32 7 (((13 : Int32) * (t32.1 18)) + x1) ((t32.1 19) + v4) → (¬ r6 = (1 : Int32) → (¬ r6 = (3 : Int32) → (¬ r6 = (7 : Int32) → R_fail_w (fun t170 => R_oneConstant_b173 Q t170) (3 : Int32) v4 t52) ∧ (r6 = (7 : Int32) → R_take_w (fun r160 t160 => R_oneConstant_b173 Q t160) t52)) ∧ (r6 = (3 : Int32) → R_oneConstant_b133 Q (0 : Int32) t52)) ∧ (r6 = (1 : Int32) → R_many_w (fun r61 t61 => R_oneConstant_b69 Q r61 (0 : Int32) t61) (10 : Int32) t52)) ∧ (¬ (t6.1 23) = 0 → Q t6)) σ
set_option maxHeartbeats 4000000 in
set_option maxRecDepth 100000 in
theorem rB_oneConstant_0 {Q : rS → Prop} (X : CallFix p m c cX7_oneConstant 8 s args wsX7_oneConstant RX7) (hr : meth.sig.returnType = none) (hlk : meth.locks = false) (hR : 3 ≤ R.frames ∧ 66 ≤ R.locals) (hK : va_K (dC, dI) vwCl [(cI, .int), (cZ, .boolean)] s) (hA : ∀ q, s.heap.size ≤ q → A q) (x1 : Int32) (σ : rS) (H : Heap) (locs : List Loc) (ls : Array Slot) (hl : lv_has ls 8 [(0, .ref h), (1, .int x1)]) (hO : rO dC dI h a cI cZ A s.heap σ H locs) (hw : R_oneConstant_b0 Q x1 σ) : W p l e R s m args below meth c H locs 0 0 (MQ below (va_Qv Q (rAt dC dI A h a cI cZ) A) args s 0 0 A) (F0 m 0 ls []) := by
  unfold R_oneConstant_b0 at hw
  refine lv_aload_n X.1 X.2.1 dX7_oneConstant_0 rfl (lv_at hl 0 rfl) ?_
  refine rf_at X hK hO dX7_oneConstant_1 ?_
  refine lv_topi (fun v4 e4 => ?_)
  have hw := hw v4 e4
  refine lv_istore_n (lv' := [(2, .int v4), (0, .ref h), (1, .int x1)]) X.1 X.2.1 dX7_oneConstant_4 rfl hl (by decide) rfl (fun ls hl => ?_)
  refine lv_aload_n X.1 X.2.1 dX7_oneConstant_5 rfl (lv_at hl 1 rfl) ?_
  refine r_calli (rest := []) (As := []) X (rC_take l dC dI h a cI cZ σ H.size _ hw) (cwV 0 X.2.2.2.2 gX7_take rfl rfl rfl hdX7_take ⟨Nat.le_trans (by decide) hR.1, Nat.le_trans (by decide) hR.2⟩) hK hA hO rfl hl.1 rfl (Nat.le_of_ble_eq_true rfl) dX7_oneConstant_6 (fun r6 t6 H locs hO hw => ?_)
  refine lv_istore_n (lv' := [(3, .int r6), (2, .int v4), (0, .ref h), (1, .int x1)]) X.1 X.2.1 dX7_oneConstant_9 rfl hl (by decide) rfl (fun ls hl => ?_)
  refine lv_aload_n X.1 X.2.1 dX7_oneConstant_10 rfl (lv_at hl 2 rfl) ?_
  refine rf_reason X hK hO dX7_oneConstant_11 ?_
  refine lv_if_eq (tgt := 18) X.1 X.2.1 dX7_oneConstant_14 rfl (fun hc9 => ?_) (fun hc9 => ?_)
  · have hw := hw.1 hc9
    refine lv_aload_n X.1 X.2.1 dX7_oneConstant_18 rfl (lv_at hl 2 rfl) ?_
    refine rf_sort X hK hO dX7_oneConstant_19 ?_
    refine lv_bipush (v := 13) X.1 X.2.1 dX7_oneConstant_22 (by decide) ?_
    refine lv_aload_n X.1 X.2.1 dX7_oneConstant_24 rfl (lv_at hl 2 rfl) ?_
    refine rf_now X hK hO dX7_oneConstant_25 ?_
    refine lv_imul X.1 X.2.1 dX7_oneConstant_28 ?_
    refine lv_iload_n X.1 X.2.1 dX7_oneConstant_29 rfl (lv_at hl 3 rfl) ?_
    refine lv_iadd X.1 X.2.1 dX7_oneConstant_30 ?_
    refine lv_iload_n X.1 X.2.1 dX7_oneConstant_31 rfl (lv_at hl 0 rfl) ?_
    obtain ⟨g32, hw⟩ := hw
    refine rs_sort X.1 X.2.1 hK hO g32 dX7_oneConstant_32 (fun H locs hO => ?_)
    obtain ⟨t32, e32⟩ : ∃ z, z = rA t6 6 (((13 : Int32) * (t6.1 18)) + x1) r6 := ⟨_, rfl⟩
    have hw := hw t32 e32
    rw [← e32] at hO
    refine lv_aload_n X.1 X.2.1 dX7_oneConstant_33 rfl (lv_at hl 2 rfl) ?_
    refine rf_place X hK hO dX7_oneConstant_34 ?_
    refine lv_bipush (v := 13) X.1 X.2.1 dX7_oneConstant_37 (by decide) ?_
    refine lv_aload_n X.1 X.2.1 dX7_oneConstant_39 rfl (lv_at hl 2 rfl) ?_
    refine rf_now X hK hO dX7_oneConstant_40 ?_
    refine lv_imul X.1 X.2.1 dX7_oneConstant_43 ?_
    refine lv_iload_n X.1 X.2.1 dX7_oneConstant_44 rfl (lv_at hl 3 rfl) ?_
    refine lv_iadd X.1 X.2.1 dX7_oneConstant_45 ?_
    refine lv_aload_n X.1 X.2.1 dX7_oneConstant_46 rfl (lv_at hl 2 rfl) ?_
    refine rf_base X hK hO dX7_oneConstant_47 ?_
    refine lv_iload_n X.1 X.2.1 dX7_oneConstant_50 rfl (lv_at hl 1 rfl) ?_
    refine lv_iadd X.1 X.2.1 dX7_oneConstant_51 ?_
    obtain ⟨g52, hw⟩ := hw
    refine rs_place X.1 X.2.1 hK hO g52 dX7_oneConstant_52 (fun H locs hO => ?_)
    obtain ⟨t52, e52⟩ : ∃ z, z = rA t32 7 (((13 : Int32) * (t32.1 18)) + x1) ((t32.1 19) + v4) := ⟨_, rfl⟩
    have hw := hw t52 e52
    rw [← e52] at hO
    refine lv_iload_n X.1 X.2.1 dX7_oneConstant_53 rfl (lv_at hl 0 rfl) ?_
    refine lv_iconst (v := 1) X.1 X.2.1 dX7_oneConstant_54 (by decide) ?_
    refine lv_icmp_ne (tgt := 125) X.1 X.2.1 dX7_oneConstant_55 rfl (fun hc9 => ?_) (fun hc9 => ?_)
    · have hw := hw.1 hc9
      refine lv_iload_n X.1 X.2.1 dX7_oneConstant_125 rfl (lv_at hl 0 rfl) ?_
      refine lv_iconst (v := 3) X.1 X.2.1 dX7_oneConstant_126 (by decide) ?_
      refine lv_icmp_ne (tgt := 153) X.1 X.2.1 dX7_oneConstant_127 rfl (fun hc9 => ?_) (fun hc9 => ?_)
      · have hw := hw.1 hc9
        refine lv_iload_n X.1 X.2.1 dX7_oneConstant_153 rfl (lv_at hl 0 rfl) ?_
        refine lv_bipush (v := 7) X.1 X.2.1 dX7_oneConstant_154 (by decide) ?_
        refine lv_icmp_ne (tgt := 167) X.1 X.2.1 dX7_oneConstant_156 rfl (fun hc9 => ?_) (fun hc9 => ?_)
        · have hw := hw.1 hc9
          refine lv_aload_n X.1 X.2.1 dX7_oneConstant_167 rfl (lv_at hl 2 rfl) ?_
          refine lv_iconst (v := 3) X.1 X.2.1 dX7_oneConstant_168 (by decide) ?_
          refine lv_iload_n X.1 X.2.1 dX7_oneConstant_169 rfl (lv_at hl 1 rfl) ?_
          refine r_callv (rest := []) (As := [.int (3 : Int32), .int v4]) X (rC_fail l dC dI h a cI cZ t52 H.size (3 : Int32) v4 _ hw) (cwV 2 X.2.2.2.2 gX7_fail rfl rfl rfl hdX7_fail ⟨Nat.le_trans (by decide) hR.1, Nat.le_trans (by decide) hR.2⟩) hK hA hO rfl hl.1 rfl (Nat.le_of_ble_eq_true rfl) dX7_oneConstant_170 (fun t170 H locs hO hw => ?_)
          exact rB_oneConstant_173 X hr hlk hR hK hA t170 H locs ls (lv_sub hl [2] rfl) hO hw
        · have hw := hw.2 hc9
          refine lv_aload_n X.1 X.2.1 dX7_oneConstant_159 rfl (lv_at hl 2 rfl) ?_
          refine r_calli (rest := []) (As := []) X (rC_take l dC dI h a cI cZ t52 H.size _ hw) (cwV 0 X.2.2.2.2 gX7_take rfl rfl rfl hdX7_take ⟨Nat.le_trans (by decide) hR.1, Nat.le_trans (by decide) hR.2⟩) hK hA hO rfl hl.1 rfl (Nat.le_of_ble_eq_true rfl) dX7_oneConstant_160 (fun r160 t160 H locs hO hw => ?_)
          refine lv_pop X.1 X.2.1 dX7_oneConstant_163 rfl ?_
          refine lv_goto (tgt := 173) X.1 X.2.1 dX7_oneConstant_164 rfl ?_
          exact rB_oneConstant_173 X hr hlk hR hK hA t160 H locs ls (lv_sub hl [2] rfl) hO hw
      · have hw := hw.2 hc9
        refine lv_iconst (v := 0) X.1 X.2.1 dX7_oneConstant_130 (by decide) ?_
        refine lv_istore (lv' := [(4, .int (0 : Int32)), (3, .int r6), (2, .int v4), (0, .ref h), (1, .int x1)]) X.1 X.2.1 dX7_oneConstant_131 hl (by decide) rfl (fun ls hl => ?_)
        obtain ⟨n, hw⟩ := hw
        exact rB_oneConstant_133 X hr hlk hR hK hA n (0 : Int32) t52 H locs ls (lv_sub hl [3, 0] rfl) hO hw
    · have hw := hw.2 hc9
      refine lv_aload_n X.1 X.2.1 dX7_oneConstant_58 rfl (lv_at hl 2 rfl) ?_
      refine lv_bipush (v := 10) X.1 X.2.1 dX7_oneConstant_59 (by decide) ?_
      refine r_calli (rest := []) (As := [.int (10 : Int32)]) X (rC_many l dC dI h a cI cZ t52 H.size (10 : Int32) _ hw) (cwV 1 X.2.2.2.2 gX7_many rfl rfl rfl hdX7_many ⟨Nat.le_trans (by decide) hR.1, Nat.le_trans (by decide) hR.2⟩) hK hA hO rfl hl.1 rfl (Nat.le_of_ble_eq_true rfl) dX7_oneConstant_61 (fun r61 t61 H locs hO hw => ?_)
      refine lv_istore (lv' := [(4, .int r61), (3, .int r6), (2, .int v4), (0, .ref h), (1, .int x1)]) X.1 X.2.1 dX7_oneConstant_64 hl (by decide) rfl (fun ls hl => ?_)
      refine lv_iconst (v := 0) X.1 X.2.1 dX7_oneConstant_66 (by decide) ?_
      refine lv_istore (lv' := [(5, .int (0 : Int32)), (4, .int r61), (3, .int r6), (2, .int v4), (0, .ref h), (1, .int x1)]) X.1 X.2.1 dX7_oneConstant_67 hl (by decide) rfl (fun ls hl => ?_)
      obtain ⟨n, hw⟩ := hw
      exact rB_oneConstant_69 X hr hlk hR hK hA n r61 (0 : Int32) t61 H locs ls (lv_sub hl [4, 1, 0] rfl) hO hw
  · have hw := hw.2 hc9
    exact W.vret X.1 X.2.1 hr (fun t ht hW => ⟨⟨t6, rfl, hw, rO_end hO hK ht hW⟩, hO.2.2.F ht⟩) hO.2.2.2.2 dX7_oneConstant_17 hlk
def R_oneConstant_w (Q : rS → Prop) (x1 : Int32) (σ : rS) : Prop := R_oneConstant_b0 Q x1 σ
abbrev rmX7_oneConstant : Room := { frames := 3, cells := 0, slots := 0, locals := 66 }
set_option maxHeartbeats 4000000 in
set_option maxRecDepth 100000 in
theorem rC_oneConstant (l : Launch) (dC : Nat → ClassId) (dI : Nat → Nat → Nat) (h : Nat) (a : Nat → Nat) (cI cZ : ClassId) (σ : rS) (sz : Nat) (x1 : Int32) (Q : rS → Prop) (hw : R_oneConstant_w Q x1 σ) : Met l yX7_oneConstant wsX7_oneConstant rmX7_oneConstant (rPc dC dI h a cI cZ sz σ [.ref h, .int x1]) (va_Qv Q (rAt dC dI (va_A (rCells h a cI cZ σ) sz) h a cI cZ) (va_A (rCells h a cI cZ σ) sz)) 0 0 (va_A (rCells h a cI cZ σ) sz) := by
  refine Met.ofW (cc := cX7_oneConstant) (maxL := 8) (ret := none) (by decide) rfl ?_
  intro p e s m args below meth c s₁ B hml hv
  obtain ⟨hargs, hsz, hP, hK, hD0⟩ := hv
  have hts := atoms_spec (ws := wsX7_oneConstant) B.pre
  have hown : s.vm.findClass RX7 = some m.cls := findClass_of_methodNamed B.named
  subst hsz
  subst hargs
  have hD := hD0.self (sz := s.heap.size)
  generalize hAe : va_A (rCells h a cI cZ σ) s.heap.size = A at hD ⊢
  have hA : ∀ q : Nat, s.heap.size ≤ q → A q := fun q h => by rw [← hAe]; exact Or.inr h
  have hl := lv_entry ([.ref h, .int x1]) (n := 8) (Nat.le_of_ble_eq_true rfl)
  rw [lg_entry_eq]
  generalize (lg_sl ([.ref h, .int x1]) ++ List.replicate (8 - (lg_sl ([.ref h, .int x1])).length) Slot.unset).toArray = ls at hl ⊢
  have hl : lv_has ls 8 [(0, .ref h), (1, .int x1)] := hl
  unfold R_oneConstant_w at hw
  exact rB_oneConstant_0 ⟨B.exec, B.bytes, hml, hown, hts⟩ B.returns B.notSynchronized ⟨Nat.le_of_ble_eq_true rfl, Nat.le_of_ble_eq_true rfl⟩ hK hA x1 σ s.heap [] ls (lv_sub hl [0, 1] rfl) ⟨hP, hD, va_S.rf⟩ hw
def R_allConstants_b185 (Q : rS → Prop) (σ : rS) : Prop :=
 Q σ
set_option maxHeartbeats 4000000 in
set_option maxRecDepth 100000 in
theorem rB_allConstants_185 {Q : rS → Prop} (X : CallFix p m c cX7_allConstants 5 s args wsX7_allConstants RX7) (hr : meth.sig.returnType = none) (hlk : meth.locks = false) (hR : 4 ≤ R.frames ∧ 93 ≤ R.locals) (hK : va_K (dC, dI) vwCl [(cI, .int), (cZ, .boolean)] s) (hA : ∀ q, s.heap.size ≤ q → A q) (σ : rS) (H : Heap) (locs : List Loc) (ls : Array Slot) (hl : lv_has ls 5 [(0, .ref h)]) (hO : rO dC dI h a cI cZ A s.heap σ H locs) (hw : R_allConstants_b185 Q σ) : W p l e R s m args below meth c H locs 0 0 (MQ below (va_Qv Q (rAt dC dI A h a cI cZ) A) args s 0 0 A) (F0 m 185 ls []) := by
  unfold R_allConstants_b185 at hw
  exact W.vret X.1 X.2.1 hr (fun t ht hW => ⟨⟨σ, rfl, hw, rO_end hO hK ht hW⟩, hO.2.2.F ht⟩) hO.2.2.2.2 dX7_allConstants_185 hlk
def R_allConstants_b179 (Q : rS → Prop) (K40 : Int32 → rS → Prop) (x1 : Int32) (σ : rS) : Prop :=
 ∀ v179 : Int32, v179 = x1 + (1 : Int32) → K40 v179 σ
set_option maxHeartbeats 4000000 in
set_option maxRecDepth 100000 in
theorem rB_allConstants_179 {Q : rS → Prop} {K40 : Int32 → rS → Prop} (X : CallFix p m c cX7_allConstants 5 s args wsX7_allConstants RX7) (hr : meth.sig.returnType = none) (hlk : meth.locks = false) (hR : 4 ≤ R.frames ∧ 93 ≤ R.locals) (hK : va_K (dC, dI) vwCl [(cI, .int), (cZ, .boolean)] s) (hA : ∀ q, s.heap.size ≤ q → A q) (k40 : ∀ (x1 : Int32) (σ : rS) (H : Heap) (locs : List Loc) (ls : Array Slot), lv_has ls 5 [(0, .ref h), (1, .int x1)] → rO dC dI h a cI cZ A s.heap σ H locs → K40 x1 σ → W p l e R s m args below meth c H locs 0 0 (MQ below (va_Qv Q (rAt dC dI A h a cI cZ) A) args s 0 0 A) (F0 m 40 ls [])) (x1 : Int32) (σ : rS) (H : Heap) (locs : List Loc) (ls : Array Slot) (hl : lv_has ls 5 [(0, .ref h), (1, .int x1)]) (hO : rO dC dI h a cI cZ A s.heap σ H locs) (hw : R_allConstants_b179 Q K40 x1 σ) : W p l e R s m args below meth c H locs 0 0 (MQ below (va_Qv Q (rAt dC dI A h a cI cZ) A) args s 0 0 A) (F0 m 179 ls []) := by
  unfold R_allConstants_b179 at hw
  obtain ⟨v179, e179⟩ : ∃ z, z = x1 + (1 : Int32) := ⟨_, rfl⟩
  have hw := hw v179 e179
  refine lv_iinc (lv' := [(1, .int v179), (0, .ref h)]) (k := 1) (v := v179) X.1 X.2.1 dX7_allConstants_179 hl rfl (by rw [e179]; rfl) (by decide) rfl (fun ls hl => ?_)
  refine lv_goto (tgt := 40) X.1 X.2.1 dX7_allConstants_182 rfl ?_
  exact k40 v179 σ H locs ls (lv_sub hl [1, 0] rfl) hO hw
def R_allConstants_b158 (Q : rS → Prop) (K40 : Int32 → rS → Prop) (x1 : Int32) (x2 : Int32) (y0 : Int32) (σ : rS) : Prop :=
 (¬ y0 = 0 → R_allConstants_b179 Q K40 x1 σ) ∧ (y0 = 0 → R_fail_w (fun t176 => R_allConstants_b179 Q K40 x1 t176) (6 : Int32) ((x2 + (1 : Int32)) - (σ.1 19)) σ)
set_option maxHeartbeats 4000000 in
set_option maxRecDepth 100000 in
theorem rB_allConstants_158 {Q : rS → Prop} {K40 : Int32 → rS → Prop} (X : CallFix p m c cX7_allConstants 5 s args wsX7_allConstants RX7) (hr : meth.sig.returnType = none) (hlk : meth.locks = false) (hR : 4 ≤ R.frames ∧ 93 ≤ R.locals) (hK : va_K (dC, dI) vwCl [(cI, .int), (cZ, .boolean)] s) (hA : ∀ q, s.heap.size ≤ q → A q) (k40 : ∀ (x1 : Int32) (σ : rS) (H : Heap) (locs : List Loc) (ls : Array Slot), lv_has ls 5 [(0, .ref h), (1, .int x1)] → rO dC dI h a cI cZ A s.heap σ H locs → K40 x1 σ → W p l e R s m args below meth c H locs 0 0 (MQ below (va_Qv Q (rAt dC dI A h a cI cZ) A) args s 0 0 A) (F0 m 40 ls [])) (x1 : Int32) (x2 : Int32) (y0 : Int32) (σ : rS) (H : Heap) (locs : List Loc) (ls : Array Slot) (hl : lv_has ls 5 [(0, .ref h), (1, .int x1), (2, .int x2)]) (hO : rO dC dI h a cI cZ A s.heap σ H locs) (hw : R_allConstants_b158 Q K40 x1 x2 y0 σ) : W p l e R s m args below meth c H locs 0 0 (MQ below (va_Qv Q (rAt dC dI A h a cI cZ) A) args s 0 0 A) (F0 m 158 ls [.int y0]) := by
  unfold R_allConstants_b158 at hw
  refine lv_istore (lv' := [(4, .int y0), (0, .ref h), (1, .int x1), (2, .int x2)]) X.1 X.2.1 dX7_allConstants_158 hl (by decide) rfl (fun ls hl => ?_)
  refine lv_iload X.1 X.2.1 dX7_allConstants_160 (lv_at hl 0 rfl) ?_
  refine lv_if_ne (tgt := 179) X.1 X.2.1 dX7_allConstants_162 rfl (fun hc9 => ?_) (fun hc9 => ?_)
  · have hw := hw.1 hc9
    exact rB_allConstants_179 X hr hlk hR hK hA k40 x1 σ H locs ls (lv_sub hl [1, 2] rfl) hO hw
  · have hw := hw.2 hc9
    refine lv_aload_n X.1 X.2.1 dX7_allConstants_165 rfl (lv_at hl 1 rfl) ?_
    refine lv_bipush (v := 6) X.1 X.2.1 dX7_allConstants_166 (by decide) ?_
    refine lv_iload_n X.1 X.2.1 dX7_allConstants_168 rfl (lv_at hl 3 rfl) ?_
    refine lv_iconst (v := 1) X.1 X.2.1 dX7_allConstants_169 (by decide) ?_
    refine lv_iadd X.1 X.2.1 dX7_allConstants_170 ?_
    refine lv_aload_n X.1 X.2.1 dX7_allConstants_171 rfl (lv_at hl 1 rfl) ?_
    refine rf_base X hK hO dX7_allConstants_172 ?_
    refine lv_isub X.1 X.2.1 dX7_allConstants_175 ?_
    refine r_callv (rest := []) (As := [.int (6 : Int32), .int ((x2 + (1 : Int32)) - (σ.1 19))]) X (rC_fail l dC dI h a cI cZ σ H.size (6 : Int32) ((x2 + (1 : Int32)) - (σ.1 19)) _ hw) (cwV 2 X.2.2.2.2 gX7_fail rfl rfl rfl hdX7_fail ⟨Nat.le_trans (by decide) hR.1, Nat.le_trans (by decide) hR.2⟩) hK hA hO rfl hl.1 rfl (Nat.le_of_ble_eq_true rfl) dX7_allConstants_176 (fun t176 H locs hO hw => ?_)
    exact rB_allConstants_179 X hr hlk hR hK hA k40 x1 t176 H locs ls (lv_sub hl [1, 2] rfl) hO hw
def R_allConstants_b157 (Q : rS → Prop) (K40 : Int32 → rS → Prop) (x1 : Int32) (x2 : Int32) (σ : rS) : Prop :=
 R_allConstants_b158 Q K40 x1 x2 (0 : Int32) σ
set_option maxHeartbeats 4000000 in
set_option maxRecDepth 100000 in
theorem rB_allConstants_157 {Q : rS → Prop} {K40 : Int32 → rS → Prop} (X : CallFix p m c cX7_allConstants 5 s args wsX7_allConstants RX7) (hr : meth.sig.returnType = none) (hlk : meth.locks = false) (hR : 4 ≤ R.frames ∧ 93 ≤ R.locals) (hK : va_K (dC, dI) vwCl [(cI, .int), (cZ, .boolean)] s) (hA : ∀ q, s.heap.size ≤ q → A q) (k40 : ∀ (x1 : Int32) (σ : rS) (H : Heap) (locs : List Loc) (ls : Array Slot), lv_has ls 5 [(0, .ref h), (1, .int x1)] → rO dC dI h a cI cZ A s.heap σ H locs → K40 x1 σ → W p l e R s m args below meth c H locs 0 0 (MQ below (va_Qv Q (rAt dC dI A h a cI cZ) A) args s 0 0 A) (F0 m 40 ls [])) (x1 : Int32) (x2 : Int32) (σ : rS) (H : Heap) (locs : List Loc) (ls : Array Slot) (hl : lv_has ls 5 [(0, .ref h), (1, .int x1), (2, .int x2)]) (hO : rO dC dI h a cI cZ A s.heap σ H locs) (hw : R_allConstants_b157 Q K40 x1 x2 σ) : W p l e R s m args below meth c H locs 0 0 (MQ below (va_Qv Q (rAt dC dI A h a cI cZ) A) args s 0 0 A) (F0 m 157 ls []) := by
  unfold R_allConstants_b157 at hw
  refine lv_iconst (v := 0) X.1 X.2.1 dX7_allConstants_157 (by decide) ?_
  exact rB_allConstants_158 X hr hlk hR hK hA k40 x1 x2 (0 : Int32) σ H locs ls (lv_sub hl [0, 1, 2] rfl) hO hw
def R_allConstants_b40_s (Q : rS → Prop) (K40 : Int32 → rS → Prop) (x1 : Int32) (σ : rS) : Prop :=
 ((σ.1 22) < x1 → R_allConstants_b185 Q σ) ∧ (¬ (σ.1 22) < x1 → (¬ (σ.1 23) = 0 → R_allConstants_b185 Q σ) ∧ ((σ.1 23) = 0 → vp_in (((13 : Int32) * (σ.1 18)) + x1) 208 ∧ ∀ v69 : Int32, v69 = (σ.2 7 (((13 : Int32) * (σ.1 18)) + x1).toNatClampNeg) → vp_in (((13 : Int32) * (σ.1 18)) + x1) 208 ∧ (¬ (σ.2 6 (((13 : Int32) * (σ.1 18)) + x1).toNatClampNeg) = (7 : Int32) → R_allConstants_b179 Q K40 x1 σ) ∧ ((σ.2 6 (((13 : Int32) * (σ.1 18)) + x1).toNatClampNeg) = (7 : Int32) → vp_in (v69 + (1 : Int32)) 1920 ∧ ∀ v97 : Int32, v97 = (σ.2 2 (v69 + (1 : Int32)).toNatClampNeg) → (v97 < (1 : Int32) → R_allConstants_b157 Q K40 x1 v69 σ) ∧ (¬ v97 < (1 : Int32) → ((σ.1 22) < v97 → R_allConstants_b157 Q K40 x1 v69 σ) ∧ (¬ (σ.1 22) < v97 → vp_in (((13 : Int32) * (σ.1 18)) + v97) 208 ∧ (¬ (σ.2 6 (((13 : Int32) * (σ.1 18)) + v97).toNatClampNeg) = (1 : Int32) → R_allConstants_b157 Q K40 x1 v69 σ) ∧ ((σ.2 6 (((13 : Int32) * (σ.1 18)) + v97).toNatClampNeg) = (1 : Int32) → vp_in (((13 : Int32) * (σ.1 18)) + v97) 208 ∧ vp_in ((σ.2 7 (((13 : Int32) * (σ.1 18)) + v97).toNatClampNeg) + (1 : Int32)) 1920 ∧ ((σ.2 2 ((σ.2 7 (((13 : Int32) * (σ.1 18)) + v97).toNatClampNeg) + (1 : Int32)).toNatClampNeg) ≤ 0 → R_allConstants_b157 Q K40 x1 v69 σ) ∧ (¬ (σ.2 2 ((σ.2 7 (((13 : Int32) * (σ.1 18)) + v97).toNatClampNeg) + (1 : Int32)).toNatClampNeg) ≤ 0 → R_allConstants_b158 Q K40 x1 v69 (1 : Int32) σ)))))))
def R_allConstants_b40_f (Q : rS → Prop) : (Int32 × rS → Prop) → Int32 × rS → Prop :=
 fun K z => R_allConstants_b40_s Q (fun x1 σ => K (x1, σ)) z.1 z.2
def R_allConstants_b40 (Q : rS → Prop) (x1 : Int32) (σ : rS) : Prop := ∃ n, fx (R_allConstants_b40_f Q ) n (x1, σ)
set_option maxHeartbeats 4000000 in
set_option maxRecDepth 100000 in
theorem rB_allConstants_40 {Q : rS → Prop} (X : CallFix p m c cX7_allConstants 5 s args wsX7_allConstants RX7) (hr : meth.sig.returnType = none) (hlk : meth.locks = false) (hR : 4 ≤ R.frames ∧ 93 ≤ R.locals) (hK : va_K (dC, dI) vwCl [(cI, .int), (cZ, .boolean)] s) (hA : ∀ q, s.heap.size ≤ q → A q) : ∀ (n : Nat) (x1 : Int32) (σ : rS) (H : Heap) (locs : List Loc) (ls : Array Slot), lv_has ls 5 [(0, .ref h), (1, .int x1)] → rO dC dI h a cI cZ A s.heap σ H locs → fx (R_allConstants_b40_f Q ) n (x1, σ) → W p l e R s m args below meth c H locs 0 0 (MQ below (va_Qv Q (rAt dC dI A h a cI cZ) A) args s 0 0 A) (F0 m 40 ls []) := by
  intro n
  induction n with
  | zero => intro x1 σ H locs ls hl hO hw; exact False.elim hw
  | succ n k40 =>
    intro x1 σ H locs ls hl hO hw
    have hw : R_allConstants_b40_s Q (fun x1 σ => fx (R_allConstants_b40_f Q ) n (x1, σ)) x1 σ := hw
    unfold R_allConstants_b40_s at hw
    refine lv_iload_n X.1 X.2.1 dX7_allConstants_40 rfl (lv_at hl 1 rfl) ?_
    refine lv_aload_n X.1 X.2.1 dX7_allConstants_41 rfl (lv_at hl 0 rfl) ?_
    refine rf_constants X hK hO dX7_allConstants_42 ?_
    refine lv_icmp_gt (tgt := 185) X.1 X.2.1 dX7_allConstants_45 rfl (fun hc9 => ?_) (fun hc9 => ?_)
    · have hw := hw.1 hc9
      exact rB_allConstants_185 X hr hlk hR hK hA σ H locs ls (lv_sub hl [0] rfl) hO hw
    · have hw := hw.2 hc9
      refine lv_aload_n X.1 X.2.1 dX7_allConstants_48 rfl (lv_at hl 0 rfl) ?_
      refine rf_reason X hK hO dX7_allConstants_49 ?_
      refine lv_if_ne (tgt := 185) X.1 X.2.1 dX7_allConstants_52 rfl (fun hc9 => ?_) (fun hc9 => ?_)
      · have hw := hw.1 hc9
        exact rB_allConstants_185 X hr hlk hR hK hA σ H locs ls (lv_sub hl [0] rfl) hO hw
      · have hw := hw.2 hc9
        refine lv_aload_n X.1 X.2.1 dX7_allConstants_55 rfl (lv_at hl 0 rfl) ?_
        refine rf_place X hK hO dX7_allConstants_56 ?_
        refine lv_bipush (v := 13) X.1 X.2.1 dX7_allConstants_59 (by decide) ?_
        refine lv_aload_n X.1 X.2.1 dX7_allConstants_61 rfl (lv_at hl 0 rfl) ?_
        refine rf_now X hK hO dX7_allConstants_62 ?_
        refine lv_imul X.1 X.2.1 dX7_allConstants_65 ?_
        refine lv_iload_n X.1 X.2.1 dX7_allConstants_66 rfl (lv_at hl 1 rfl) ?_
        refine lv_iadd X.1 X.2.1 dX7_allConstants_67 ?_
        obtain ⟨g68, hw⟩ := hw
        refine ra_place X.1 X.2.1 hK hO g68 dX7_allConstants_68 ?_
        refine lv_topi (fun v69 e69 => ?_)
        have hw := hw v69 e69
        refine lv_istore_n (lv' := [(2, .int v69), (0, .ref h), (1, .int x1)]) X.1 X.2.1 dX7_allConstants_69 rfl hl (by decide) rfl (fun ls hl => ?_)
        refine lv_aload_n X.1 X.2.1 dX7_allConstants_70 rfl (lv_at hl 1 rfl) ?_
        refine rf_sort X hK hO dX7_allConstants_71 ?_
        refine lv_bipush (v := 13) X.1 X.2.1 dX7_allConstants_74 (by decide) ?_
        refine lv_aload_n X.1 X.2.1 dX7_allConstants_76 rfl (lv_at hl 1 rfl) ?_
        refine rf_now X hK hO dX7_allConstants_77 ?_
        refine lv_imul X.1 X.2.1 dX7_allConstants_80 ?_
        refine lv_iload_n X.1 X.2.1 dX7_allConstants_81 rfl (lv_at hl 2 rfl) ?_
        refine lv_iadd X.1 X.2.1 dX7_allConstants_82 ?_
        obtain ⟨g83, hw⟩ := hw
        refine ra_sort X.1 X.2.1 hK hO g83 dX7_allConstants_83 ?_
        refine lv_bipush (v := 7) X.1 X.2.1 dX7_allConstants_84 (by decide) ?_
        refine lv_icmp_ne (tgt := 179) X.1 X.2.1 dX7_allConstants_86 rfl (fun hc9 => ?_) (fun hc9 => ?_)
        · have hw := hw.1 hc9
          exact rB_allConstants_179 X hr hlk hR hK hA k40 x1 σ H locs ls (lv_sub hl [1, 2] rfl) hO hw
        · have hw := hw.2 hc9
          refine lv_aload_n X.1 X.2.1 dX7_allConstants_89 rfl (lv_at hl 1 rfl) ?_
          refine rf_bytes X hK hO dX7_allConstants_90 ?_
          refine lv_iload_n X.1 X.2.1 dX7_allConstants_93 rfl (lv_at hl 0 rfl) ?_
          refine lv_iconst (v := 1) X.1 X.2.1 dX7_allConstants_94 (by decide) ?_
          refine lv_iadd X.1 X.2.1 dX7_allConstants_95 ?_
          obtain ⟨g96, hw⟩ := hw
          refine ra_bytes X.1 X.2.1 hK hO g96 dX7_allConstants_96 ?_
          refine lv_topi (fun v97 e97 => ?_)
          have hw := hw v97 e97
          refine lv_istore_n (lv' := [(3, .int v97), (2, .int v69), (0, .ref h), (1, .int x1)]) X.1 X.2.1 dX7_allConstants_97 rfl hl (by decide) rfl (fun ls hl => ?_)
          refine lv_iload_n X.1 X.2.1 dX7_allConstants_98 rfl (lv_at hl 0 rfl) ?_
          refine lv_iconst (v := 1) X.1 X.2.1 dX7_allConstants_99 (by decide) ?_
          refine lv_icmp_lt (tgt := 157) X.1 X.2.1 dX7_allConstants_100 rfl (fun hc9 => ?_) (fun hc9 => ?_)
          · have hw := hw.1 hc9
            exact rB_allConstants_157 X hr hlk hR hK hA k40 x1 v69 σ H locs ls (lv_sub hl [2, 3, 1] rfl) hO hw
          · have hw := hw.2 hc9
            refine lv_iload_n X.1 X.2.1 dX7_allConstants_103 rfl (lv_at hl 0 rfl) ?_
            refine lv_aload_n X.1 X.2.1 dX7_allConstants_104 rfl (lv_at hl 2 rfl) ?_
            refine rf_constants X hK hO dX7_allConstants_105 ?_
            refine lv_icmp_gt (tgt := 157) X.1 X.2.1 dX7_allConstants_108 rfl (fun hc9 => ?_) (fun hc9 => ?_)
            · have hw := hw.1 hc9
              exact rB_allConstants_157 X hr hlk hR hK hA k40 x1 v69 σ H locs ls (lv_sub hl [2, 3, 1] rfl) hO hw
            · have hw := hw.2 hc9
              refine lv_aload_n X.1 X.2.1 dX7_allConstants_111 rfl (lv_at hl 2 rfl) ?_
              refine rf_sort X hK hO dX7_allConstants_112 ?_
              refine lv_bipush (v := 13) X.1 X.2.1 dX7_allConstants_115 (by decide) ?_
              refine lv_aload_n X.1 X.2.1 dX7_allConstants_117 rfl (lv_at hl 2 rfl) ?_
              refine rf_now X hK hO dX7_allConstants_118 ?_
              refine lv_imul X.1 X.2.1 dX7_allConstants_121 ?_
              refine lv_iload_n X.1 X.2.1 dX7_allConstants_122 rfl (lv_at hl 0 rfl) ?_
              refine lv_iadd X.1 X.2.1 dX7_allConstants_123 ?_
              obtain ⟨g124, hw⟩ := hw
              refine ra_sort X.1 X.2.1 hK hO g124 dX7_allConstants_124 ?_
              refine lv_iconst (v := 1) X.1 X.2.1 dX7_allConstants_125 (by decide) ?_
              refine lv_icmp_ne (tgt := 157) X.1 X.2.1 dX7_allConstants_126 rfl (fun hc9 => ?_) (fun hc9 => ?_)
              · have hw := hw.1 hc9
                exact rB_allConstants_157 X hr hlk hR hK hA k40 x1 v69 σ H locs ls (lv_sub hl [2, 3, 1] rfl) hO hw
              · have hw := hw.2 hc9
                refine lv_aload_n X.1 X.2.1 dX7_allConstants_129 rfl (lv_at hl 2 rfl) ?_
                refine rf_bytes X hK hO dX7_allConstants_130 ?_
                refine lv_aload_n X.1 X.2.1 dX7_allConstants_133 rfl (lv_at hl 2 rfl) ?_
                refine rf_place X hK hO dX7_allConstants_134 ?_
                refine lv_bipush (v := 13) X.1 X.2.1 dX7_allConstants_137 (by decide) ?_
                refine lv_aload_n X.1 X.2.1 dX7_allConstants_139 rfl (lv_at hl 2 rfl) ?_
                refine rf_now X hK hO dX7_allConstants_140 ?_
                refine lv_imul X.1 X.2.1 dX7_allConstants_143 ?_
                refine lv_iload_n X.1 X.2.1 dX7_allConstants_144 rfl (lv_at hl 0 rfl) ?_
                refine lv_iadd X.1 X.2.1 dX7_allConstants_145 ?_
                obtain ⟨g146, hw⟩ := hw
                refine ra_place X.1 X.2.1 hK hO g146 dX7_allConstants_146 ?_
                refine lv_iconst (v := 1) X.1 X.2.1 dX7_allConstants_147 (by decide) ?_
                refine lv_iadd X.1 X.2.1 dX7_allConstants_148 ?_
                obtain ⟨g149, hw⟩ := hw
                refine ra_bytes X.1 X.2.1 hK hO g149 dX7_allConstants_149 ?_
                refine lv_if_le (tgt := 157) X.1 X.2.1 dX7_allConstants_150 rfl (fun hc9 => ?_) (fun hc9 => ?_)
                · have hw := hw.1 hc9
                  exact rB_allConstants_157 X hr hlk hR hK hA k40 x1 v69 σ H locs ls (lv_sub hl [2, 3, 1] rfl) hO hw
                · have hw := hw.2 hc9
                  refine lv_iconst (v := 1) X.1 X.2.1 dX7_allConstants_153 (by decide) ?_
                  refine lv_goto (tgt := 158) X.1 X.2.1 dX7_allConstants_154 rfl ?_
                  exact rB_allConstants_158 X hr hlk hR hK hA k40 x1 v69 (1 : Int32) σ H locs ls (lv_sub hl [2, 3, 1] rfl) hO hw
def R_allConstants_b38 (Q : rS → Prop) (σ : rS) : Prop :=
 R_allConstants_b40 Q (1 : Int32) σ
set_option maxHeartbeats 4000000 in
set_option maxRecDepth 100000 in
theorem rB_allConstants_38 {Q : rS → Prop} (X : CallFix p m c cX7_allConstants 5 s args wsX7_allConstants RX7) (hr : meth.sig.returnType = none) (hlk : meth.locks = false) (hR : 4 ≤ R.frames ∧ 93 ≤ R.locals) (hK : va_K (dC, dI) vwCl [(cI, .int), (cZ, .boolean)] s) (hA : ∀ q, s.heap.size ≤ q → A q) (σ : rS) (H : Heap) (locs : List Loc) (ls : Array Slot) (hl : lv_has ls 5 [(0, .ref h)]) (hO : rO dC dI h a cI cZ A s.heap σ H locs) (hw : R_allConstants_b38 Q σ) : W p l e R s m args below meth c H locs 0 0 (MQ below (va_Qv Q (rAt dC dI A h a cI cZ) A) args s 0 0 A) (F0 m 38 ls []) := by
  unfold R_allConstants_b38 at hw
  refine lv_iconst (v := 1) X.1 X.2.1 dX7_allConstants_38 (by decide) ?_
  refine lv_istore_n (lv' := [(1, .int (1 : Int32)), (0, .ref h)]) X.1 X.2.1 dX7_allConstants_39 rfl hl (by decide) rfl (fun ls hl => ?_)
  obtain ⟨n, hw⟩ := hw
  exact rB_allConstants_40 X hr hlk hR hK hA n (1 : Int32) σ H locs ls (lv_sub hl [1, 0] rfl) hO hw
def R_allConstants_b12_s (Q : rS → Prop) (K12 : Int32 → rS → Prop) (x1 : Int32) (σ : rS) : Prop :=
 ((σ.1 22) < x1 → R_allConstants_b38 Q σ) ∧ (¬ (σ.1 22) < x1 → (¬ (σ.1 23) = 0 → R_allConstants_b38 Q σ) ∧ ((σ.1 23) = 0 → R_oneConstant_w (fun t29 => ∀ v32 : Int32, v32 = x1 + (1 : Int32) → K12 v32 t29) x1 σ))
def R_allConstants_b12_f (Q : rS → Prop) : (Int32 × rS → Prop) → Int32 × rS → Prop :=
 fun K z => R_allConstants_b12_s Q (fun x1 σ => K (x1, σ)) z.1 z.2
def R_allConstants_b12 (Q : rS → Prop) (x1 : Int32) (σ : rS) : Prop := ∃ n, fx (R_allConstants_b12_f Q ) n (x1, σ)
set_option maxHeartbeats 4000000 in
set_option maxRecDepth 100000 in
theorem rB_allConstants_12 {Q : rS → Prop} (X : CallFix p m c cX7_allConstants 5 s args wsX7_allConstants RX7) (hr : meth.sig.returnType = none) (hlk : meth.locks = false) (hR : 4 ≤ R.frames ∧ 93 ≤ R.locals) (hK : va_K (dC, dI) vwCl [(cI, .int), (cZ, .boolean)] s) (hA : ∀ q, s.heap.size ≤ q → A q) : ∀ (n : Nat) (x1 : Int32) (σ : rS) (H : Heap) (locs : List Loc) (ls : Array Slot), lv_has ls 5 [(0, .ref h), (1, .int x1)] → rO dC dI h a cI cZ A s.heap σ H locs → fx (R_allConstants_b12_f Q ) n (x1, σ) → W p l e R s m args below meth c H locs 0 0 (MQ below (va_Qv Q (rAt dC dI A h a cI cZ) A) args s 0 0 A) (F0 m 12 ls []) := by
  intro n
  induction n with
  | zero => intro x1 σ H locs ls hl hO hw; exact False.elim hw
  | succ n k12 =>
    intro x1 σ H locs ls hl hO hw
    have hw : R_allConstants_b12_s Q (fun x1 σ => fx (R_allConstants_b12_f Q ) n (x1, σ)) x1 σ := hw
    unfold R_allConstants_b12_s at hw
    refine lv_iload_n X.1 X.2.1 dX7_allConstants_12 rfl (lv_at hl 1 rfl) ?_
    refine lv_aload_n X.1 X.2.1 dX7_allConstants_13 rfl (lv_at hl 0 rfl) ?_
    refine rf_constants X hK hO dX7_allConstants_14 ?_
    refine lv_icmp_gt (tgt := 38) X.1 X.2.1 dX7_allConstants_17 rfl (fun hc9 => ?_) (fun hc9 => ?_)
    · have hw := hw.1 hc9
      exact rB_allConstants_38 X hr hlk hR hK hA σ H locs ls (lv_sub hl [0] rfl) hO hw
    · have hw := hw.2 hc9
      refine lv_aload_n X.1 X.2.1 dX7_allConstants_20 rfl (lv_at hl 0 rfl) ?_
      refine rf_reason X hK hO dX7_allConstants_21 ?_
      refine lv_if_ne (tgt := 38) X.1 X.2.1 dX7_allConstants_24 rfl (fun hc9 => ?_) (fun hc9 => ?_)
      · have hw := hw.1 hc9
        exact rB_allConstants_38 X hr hlk hR hK hA σ H locs ls (lv_sub hl [0] rfl) hO hw
      · have hw := hw.2 hc9
        refine lv_aload_n X.1 X.2.1 dX7_allConstants_27 rfl (lv_at hl 0 rfl) ?_
        refine lv_iload_n X.1 X.2.1 dX7_allConstants_28 rfl (lv_at hl 1 rfl) ?_
        refine r_callv (rest := []) (As := [.int x1]) X (rC_oneConstant l dC dI h a cI cZ σ H.size x1 _ hw) (cwV 1 X.2.2.2.2 gX7_oneConstant rfl rfl rfl hdX7_oneConstant ⟨Nat.le_trans (by decide) hR.1, Nat.le_trans (by decide) hR.2⟩) hK hA hO rfl hl.1 rfl (Nat.le_of_ble_eq_true rfl) dX7_allConstants_29 (fun t29 H locs hO hw => ?_)
        obtain ⟨v32, e32⟩ : ∃ z, z = x1 + (1 : Int32) := ⟨_, rfl⟩
        have hw := hw v32 e32
        refine lv_iinc (lv' := [(1, .int v32), (0, .ref h)]) (k := 1) (v := v32) X.1 X.2.1 dX7_allConstants_32 hl rfl (by rw [e32]; rfl) (by decide) rfl (fun ls hl => ?_)
        refine lv_goto (tgt := 12) X.1 X.2.1 dX7_allConstants_35 rfl ?_
        exact k12 v32 t29 H locs ls (lv_sub hl [1, 0] rfl) hO hw
def R_allConstants_b0 (Q : rS → Prop) (σ : rS) : Prop :=
 R_many_w (fun r4 t4 => ∀ t7 : rS, t7 = rI t4 22 r4 → R_allConstants_b12 Q (1 : Int32) t7) (12 : Int32) σ
set_option maxHeartbeats 4000000 in
set_option maxRecDepth 100000 in
theorem rB_allConstants_0 {Q : rS → Prop} (X : CallFix p m c cX7_allConstants 5 s args wsX7_allConstants RX7) (hr : meth.sig.returnType = none) (hlk : meth.locks = false) (hR : 4 ≤ R.frames ∧ 93 ≤ R.locals) (hK : va_K (dC, dI) vwCl [(cI, .int), (cZ, .boolean)] s) (hA : ∀ q, s.heap.size ≤ q → A q) (σ : rS) (H : Heap) (locs : List Loc) (ls : Array Slot) (hl : lv_has ls 5 [(0, .ref h)]) (hO : rO dC dI h a cI cZ A s.heap σ H locs) (hw : R_allConstants_b0 Q σ) : W p l e R s m args below meth c H locs 0 0 (MQ below (va_Qv Q (rAt dC dI A h a cI cZ) A) args s 0 0 A) (F0 m 0 ls []) := by
  unfold R_allConstants_b0 at hw
  refine lv_aload_n X.1 X.2.1 dX7_allConstants_0 rfl (lv_at hl 0 rfl) ?_
  refine lv_aload_n X.1 X.2.1 dX7_allConstants_1 rfl (lv_at hl 0 rfl) ?_
  refine lv_bipush (v := 12) X.1 X.2.1 dX7_allConstants_2 (by decide) ?_
  refine r_calli (rest := [.ref h]) (As := [.int (12 : Int32)]) X (rC_many l dC dI h a cI cZ σ H.size (12 : Int32) _ hw) (cwV 1 X.2.2.2.2 gX7_many rfl rfl rfl hdX7_many ⟨Nat.le_trans (by decide) hR.1, Nat.le_trans (by decide) hR.2⟩) hK hA hO rfl hl.1 rfl (Nat.le_of_ble_eq_true rfl) dX7_allConstants_4 (fun r4 t4 H locs hO hw => ?_)
  refine rp_constants X hK hO dX7_allConstants_7 (fun H locs hO => ?_)
  obtain ⟨t7, e7⟩ : ∃ z, z = rI t4 22 r4 := ⟨_, rfl⟩
  have hw := hw t7 e7
  rw [← e7] at hO
  refine lv_iconst (v := 1) X.1 X.2.1 dX7_allConstants_10 (by decide) ?_
  refine lv_istore_n (lv' := [(1, .int (1 : Int32)), (0, .ref h)]) X.1 X.2.1 dX7_allConstants_11 rfl hl (by decide) rfl (fun ls hl => ?_)
  obtain ⟨n, hw⟩ := hw
  exact rB_allConstants_12 X hr hlk hR hK hA n (1 : Int32) t7 H locs ls (lv_sub hl [1, 0] rfl) hO hw
def R_allConstants_w (Q : rS → Prop) (σ : rS) : Prop := R_allConstants_b0 Q σ
abbrev rmX7_allConstants : Room := { frames := 4, cells := 0, slots := 0, locals := 93 }
set_option maxHeartbeats 4000000 in
set_option maxRecDepth 100000 in
theorem rC_allConstants (l : Launch) (dC : Nat → ClassId) (dI : Nat → Nat → Nat) (h : Nat) (a : Nat → Nat) (cI cZ : ClassId) (σ : rS) (sz : Nat) (Q : rS → Prop) (hw : R_allConstants_w Q σ) : Met l yX7_allConstants wsX7_allConstants rmX7_allConstants (rPc dC dI h a cI cZ sz σ [.ref h]) (va_Qv Q (rAt dC dI (va_A (rCells h a cI cZ σ) sz) h a cI cZ) (va_A (rCells h a cI cZ σ) sz)) 0 0 (va_A (rCells h a cI cZ σ) sz) := by
  refine Met.ofW (cc := cX7_allConstants) (maxL := 5) (ret := none) (by decide) rfl ?_
  intro p e s m args below meth c s₁ B hml hv
  obtain ⟨hargs, hsz, hP, hK, hD0⟩ := hv
  have hts := atoms_spec (ws := wsX7_allConstants) B.pre
  have hown : s.vm.findClass RX7 = some m.cls := findClass_of_methodNamed B.named
  subst hsz
  subst hargs
  have hD := hD0.self (sz := s.heap.size)
  generalize hAe : va_A (rCells h a cI cZ σ) s.heap.size = A at hD ⊢
  have hA : ∀ q : Nat, s.heap.size ≤ q → A q := fun q h => by rw [← hAe]; exact Or.inr h
  have hl := lv_entry ([.ref h]) (n := 5) (Nat.le_of_ble_eq_true rfl)
  rw [lg_entry_eq]
  generalize (lg_sl ([.ref h]) ++ List.replicate (5 - (lg_sl ([.ref h])).length) Slot.unset).toArray = ls at hl ⊢
  have hl : lv_has ls 5 [(0, .ref h)] := hl
  unfold R_allConstants_w at hw
  exact rB_allConstants_0 ⟨B.exec, B.bytes, hml, hown, hts⟩ B.returns B.notSynchronized ⟨Nat.le_of_ble_eq_true rfl, Nat.le_of_ble_eq_true rfl⟩ hK hA σ s.heap [] ls (lv_sub hl [0] rfl) ⟨hP, hD, va_S.rf⟩ hw
end
