section
variable {p : Program} {l : Launch} {e : Env} {R : Room} {s : State} {m : MethodId} {args : Array Value} {below : List Frame} {meth : Method} {c : Code}
variable {dC : Nat → ClassId} {dI : Nat → Nat → Nat} {h : Nat} {a : Nat → Nat} {cI cZ : ClassId} {A : Nat → Prop}
def R_value_b26 (Q : Int64 → rS → Prop) (σ : rS) : Prop :=
 Q (-1 : Int64) σ
set_option maxHeartbeats 4000000 in
set_option maxRecDepth 100000 in
theorem rB_value_26 {Q : Int64 → rS → Prop} (X : CallFix p m c cX7_value 10 s args wsX7_value RX7) (hr : meth.sig.returnType = (some .long)) (hlk : meth.locks = false) (hR : 3 ≤ R.frames ∧ 70 ≤ R.locals) (hK : va_K (dC, dI) vwCl [(cI, .int), (cZ, .boolean)] s) (hA : ∀ q, s.heap.size ≤ q → A q) (σ : rS) (H : Heap) (locs : List Loc) (ls : Array Slot) (hl : lv_has ls 10 [(0, .ref h)]) (hO : rO dC dI h a cI cZ A s.heap σ H locs) (hw : R_value_b26 Q σ) : W p l e R s m args below meth c H locs 0 0 (MQ below (va_Ql Q (rAt dC dI A h a cI cZ) A) args s 0 0 A) (F0 m 26 ls []) := by
  unfold R_value_b26 at hw
  refine lv_ldc2 (v := -1) X.1 X.2.1 X.2.2.2.1 (X.2.2.2.2 _ (List.mem_cons_of_mem _ qX7_196)) dX7_value_26 ?_
  exact W.lret (v := (-1 : Int64)) X.1 X.2.1 hr (fun t ht hW => ⟨⟨(-1 : Int64), σ, rfl, hw, rO_end hO hK ht hW⟩, hO.2.2.F ht⟩) hO.2.2.2.2 dX7_value_29 hlk
def R_value_b168 (Q : Int64 → rS → Prop) (y0 : Int64) (σ : rS) : Prop :=
 Q y0 σ
set_option maxHeartbeats 4000000 in
set_option maxRecDepth 100000 in
theorem rB_value_168 {Q : Int64 → rS → Prop} (X : CallFix p m c cX7_value 10 s args wsX7_value RX7) (hr : meth.sig.returnType = (some .long)) (hlk : meth.locks = false) (hR : 3 ≤ R.frames ∧ 70 ≤ R.locals) (hK : va_K (dC, dI) vwCl [(cI, .int), (cZ, .boolean)] s) (hA : ∀ q, s.heap.size ≤ q → A q) (y0 : Int64) (σ : rS) (H : Heap) (locs : List Loc) (ls : Array Slot) (hl : lv_has ls 10 [(0, .ref h)]) (hO : rO dC dI h a cI cZ A s.heap σ H locs) (hw : R_value_b168 Q y0 σ) : W p l e R s m args below meth c H locs 0 0 (MQ below (va_Ql Q (rAt dC dI A h a cI cZ) A) args s 0 0 A) (F0 m 168 ls [.long y0]) := by
  unfold R_value_b168 at hw
  exact W.lret (v := y0) X.1 X.2.1 hr (fun t ht hW => ⟨⟨y0, σ, rfl, hw, rO_end hO hK ht hW⟩, hO.2.2.F ht⟩) hO.2.2.2.2 dX7_value_168 hlk
def R_value_b149 (Q : Int64 → rS → Prop) (x5 : Int32) (x7 : Int32) (σ : rS) : Prop :=
 (0 ≤ x7 → R_shown_w (fun r165 t165 => R_value_b168 Q r165 t165) x5 x7 σ) ∧ (¬ 0 ≤ x7 → R_value_b168 Q (-1 : Int64) σ)
set_option maxHeartbeats 4000000 in
set_option maxRecDepth 100000 in
theorem rB_value_149 {Q : Int64 → rS → Prop} (X : CallFix p m c cX7_value 10 s args wsX7_value RX7) (hr : meth.sig.returnType = (some .long)) (hlk : meth.locks = false) (hR : 3 ≤ R.frames ∧ 70 ≤ R.locals) (hK : va_K (dC, dI) vwCl [(cI, .int), (cZ, .boolean)] s) (hA : ∀ q, s.heap.size ≤ q → A q) (x5 : Int32) (x7 : Int32) (σ : rS) (H : Heap) (locs : List Loc) (ls : Array Slot) (hl : lv_has ls 10 [(0, .ref h), (5, .int x5), (7, .int x7)]) (hO : rO dC dI h a cI cZ A s.heap σ H locs) (hw : R_value_b149 Q x5 x7 σ) : W p l e R s m args below meth c H locs 0 0 (MQ below (va_Ql Q (rAt dC dI A h a cI cZ) A) args s 0 0 A) (F0 m 149 ls []) := by
  unfold R_value_b149 at hw
  refine lv_iload X.1 X.2.1 dX7_value_149 (lv_at hl 2 rfl) ?_
  refine lv_if_ge (tgt := 160) X.1 X.2.1 dX7_value_151 rfl (fun hc9 => ?_) (fun hc9 => ?_)
  · have hw := hw.1 hc9
    refine lv_aload_n X.1 X.2.1 dX7_value_160 rfl (lv_at hl 0 rfl) ?_
    refine lv_iload X.1 X.2.1 dX7_value_161 (lv_at hl 1 rfl) ?_
    refine lv_iload X.1 X.2.1 dX7_value_163 (lv_at hl 2 rfl) ?_
    refine r_calll (rest := []) (As := [.int x5, .int x7]) X (rC_shown l dC dI h a cI cZ σ H.size x5 x7 _ hw) (cwV 2 X.2.2.2.2 gX7_shown rfl rfl rfl hdX7_shown ⟨Nat.le_trans (by decide) hR.1, Nat.le_trans (by decide) hR.2⟩) hK hA hO rfl hl.1 rfl (Nat.le_of_ble_eq_true rfl) dX7_value_165 (fun r165 t165 H locs hO hw => ?_)
    exact rB_value_168 X hr hlk hR hK hA r165 t165 H locs ls (lv_sub hl [0] rfl) hO hw
  · have hw := hw.2 hc9
    refine lv_ldc2 (v := -1) X.1 X.2.1 X.2.2.2.1 (X.2.2.2.2 _ (List.mem_cons_of_mem _ qX7_196)) dX7_value_154 ?_
    refine lv_goto (tgt := 168) X.1 X.2.1 dX7_value_157 rfl ?_
    exact rB_value_168 X hr hlk hR hK hA (-1 : Int64) σ H locs ls (lv_sub hl [0] rfl) hO hw
def R_value_b106_s (Q : Int64 → rS → Prop) (K106 : Int32 → Int32 → Int32 → Int32 → rS → Prop) (x5 : Int32) (x7 : Int32) (x8 : Int32) (x9 : Int32) (σ : rS) : Prop :=
 ((11 : Int32) ≤ x9 → R_value_b149 Q x5 x7 σ) ∧ (¬ (11 : Int32) ≤ x9 → (x8 = 0 → R_value_b149 Q x5 x7 σ) ∧ (¬ x8 = 0 → (x7 < 0 → R_value_b149 Q x5 x7 σ) ∧ (¬ x7 < 0 → R_inside_w (fun r131 t131 => ∀ v141 : Int32, v141 = (x8 / (8 : Int32)) → ∀ v143 : Int32, v143 = x9 + (1 : Int32) → K106 x5 r131 v141 v143 t131) x7 (x8 - x8 / (8 : Int32) * (8 : Int32)) σ)))
def R_value_b106_f (Q : Int64 → rS → Prop) : (Int32 × Int32 × Int32 × Int32 × rS → Prop) → Int32 × Int32 × Int32 × Int32 × rS → Prop :=
 fun K z => R_value_b106_s Q (fun x5 x7 x8 x9 σ => K (x5, x7, x8, x9, σ)) z.1 z.2.1 z.2.2.1 z.2.2.2.1 z.2.2.2.2
def R_value_b106 (Q : Int64 → rS → Prop) (x5 : Int32) (x7 : Int32) (x8 : Int32) (x9 : Int32) (σ : rS) : Prop := ∃ n, fx (R_value_b106_f Q ) n (x5, x7, x8, x9, σ)
set_option maxHeartbeats 4000000 in
set_option maxRecDepth 100000 in
theorem rB_value_106 {Q : Int64 → rS → Prop} (X : CallFix p m c cX7_value 10 s args wsX7_value RX7) (hr : meth.sig.returnType = (some .long)) (hlk : meth.locks = false) (hR : 3 ≤ R.frames ∧ 70 ≤ R.locals) (hK : va_K (dC, dI) vwCl [(cI, .int), (cZ, .boolean)] s) (hA : ∀ q, s.heap.size ≤ q → A q) : ∀ (n : Nat) (x5 : Int32) (x7 : Int32) (x8 : Int32) (x9 : Int32) (σ : rS) (H : Heap) (locs : List Loc) (ls : Array Slot), lv_has ls 10 [(0, .ref h), (5, .int x5), (7, .int x7), (8, .int x8), (9, .int x9)] → rO dC dI h a cI cZ A s.heap σ H locs → fx (R_value_b106_f Q ) n (x5, x7, x8, x9, σ) → W p l e R s m args below meth c H locs 0 0 (MQ below (va_Ql Q (rAt dC dI A h a cI cZ) A) args s 0 0 A) (F0 m 106 ls []) := by
  intro n
  induction n with
  | zero => intro x5 x7 x8 x9 σ H locs ls hl hO hw; exact False.elim hw
  | succ n k106 =>
    intro x5 x7 x8 x9 σ H locs ls hl hO hw
    have hw : R_value_b106_s Q (fun x5 x7 x8 x9 σ => fx (R_value_b106_f Q ) n (x5, x7, x8, x9, σ)) x5 x7 x8 x9 σ := hw
    unfold R_value_b106_s at hw
    refine lv_iload X.1 X.2.1 dX7_value_106 (lv_at hl 4 rfl) ?_
    refine lv_bipush (v := 11) X.1 X.2.1 dX7_value_108 (by decide) ?_
    refine lv_icmp_ge (tgt := 149) X.1 X.2.1 dX7_value_110 rfl (fun hc9 => ?_) (fun hc9 => ?_)
    · have hw := hw.1 hc9
      exact rB_value_149 X hr hlk hR hK hA x5 x7 σ H locs ls (lv_sub hl [0, 1, 2] rfl) hO hw
    · have hw := hw.2 hc9
      refine lv_iload X.1 X.2.1 dX7_value_113 (lv_at hl 3 rfl) ?_
      refine lv_if_eq (tgt := 149) X.1 X.2.1 dX7_value_115 rfl (fun hc9 => ?_) (fun hc9 => ?_)
      · have hw := hw.1 hc9
        exact rB_value_149 X hr hlk hR hK hA x5 x7 σ H locs ls (lv_sub hl [0, 1, 2] rfl) hO hw
      · have hw := hw.2 hc9
        refine lv_iload X.1 X.2.1 dX7_value_118 (lv_at hl 2 rfl) ?_
        refine lv_if_lt (tgt := 149) X.1 X.2.1 dX7_value_120 rfl (fun hc9 => ?_) (fun hc9 => ?_)
        · have hw := hw.1 hc9
          exact rB_value_149 X hr hlk hR hK hA x5 x7 σ H locs ls (lv_sub hl [0, 1, 2] rfl) hO hw
        · have hw := hw.2 hc9
          refine lv_aload_n X.1 X.2.1 dX7_value_123 rfl (lv_at hl 0 rfl) ?_
          refine lv_iload X.1 X.2.1 dX7_value_124 (lv_at hl 2 rfl) ?_
          refine lv_iload X.1 X.2.1 dX7_value_126 (lv_at hl 3 rfl) ?_
          refine lv_bipush (v := 8) X.1 X.2.1 dX7_value_128 (by decide) ?_
          refine lv_irem X.1 X.2.1 dX7_value_130 (by decide) ?_
          refine r_calli (rest := []) (As := [.int x7, .int (x8 - x8 / (8 : Int32) * (8 : Int32))]) X (rC_inside l dC dI h a cI cZ σ H.size x7 (x8 - x8 / (8 : Int32) * (8 : Int32)) _ hw) (cwV 2 X.2.2.2.2 gX7_inside rfl rfl rfl hdX7_inside ⟨Nat.le_trans (by decide) hR.1, Nat.le_trans (by decide) hR.2⟩) hK hA hO rfl hl.1 rfl (Nat.le_of_ble_eq_true rfl) dX7_value_131 (fun r131 t131 H locs hO hw => ?_)
          refine lv_istore (lv' := [(7, .int r131), (0, .ref h), (5, .int x5), (8, .int x8), (9, .int x9)]) X.1 X.2.1 dX7_value_134 hl (by decide) rfl (fun ls hl => ?_)
          refine lv_iload X.1 X.2.1 dX7_value_136 (lv_at hl 3 rfl) ?_
          refine lv_bipush (v := 8) X.1 X.2.1 dX7_value_138 (by decide) ?_
          refine lv_idiv X.1 X.2.1 dX7_value_140 (by decide) ?_
          refine lv_topi (fun v141 e141 => ?_)
          have hw := hw v141 e141
          refine lv_istore (lv' := [(8, .int v141), (7, .int r131), (0, .ref h), (5, .int x5), (9, .int x9)]) X.1 X.2.1 dX7_value_141 hl (by decide) rfl (fun ls hl => ?_)
          obtain ⟨v143, e143⟩ : ∃ z, z = x9 + (1 : Int32) := ⟨_, rfl⟩
          have hw := hw v143 e143
          refine lv_iinc (lv' := [(9, .int v143), (8, .int v141), (7, .int r131), (0, .ref h), (5, .int x5)]) (k := 4) (v := v143) X.1 X.2.1 dX7_value_143 hl rfl (by rw [e143]; rfl) (by decide) rfl (fun ls hl => ?_)
          refine lv_goto (tgt := 106) X.1 X.2.1 dX7_value_146 rfl ?_
          exact k106 x5 r131 v141 v143 t131 H locs ls (lv_sub hl [3, 4, 2, 1, 0] rfl) hO hw
def R_value_b99 (Q : Int64 → rS → Prop) (x4 : Int32) (x5 : Int32) (x7 : Int32) (σ : rS) : Prop :=
 R_value_b106 Q x5 x7 x4 (0 : Int32) σ
set_option maxHeartbeats 4000000 in
set_option maxRecDepth 100000 in
theorem rB_value_99 {Q : Int64 → rS → Prop} (X : CallFix p m c cX7_value 10 s args wsX7_value RX7) (hr : meth.sig.returnType = (some .long)) (hlk : meth.locks = false) (hR : 3 ≤ R.frames ∧ 70 ≤ R.locals) (hK : va_K (dC, dI) vwCl [(cI, .int), (cZ, .boolean)] s) (hA : ∀ q, s.heap.size ≤ q → A q) (x4 : Int32) (x5 : Int32) (x7 : Int32) (σ : rS) (H : Heap) (locs : List Loc) (ls : Array Slot) (hl : lv_has ls 10 [(0, .ref h), (4, .int x4), (5, .int x5), (7, .int x7)]) (hO : rO dC dI h a cI cZ A s.heap σ H locs) (hw : R_value_b99 Q x4 x5 x7 σ) : W p l e R s m args below meth c H locs 0 0 (MQ below (va_Ql Q (rAt dC dI A h a cI cZ) A) args s 0 0 A) (F0 m 99 ls []) := by
  unfold R_value_b99 at hw
  refine lv_iload X.1 X.2.1 dX7_value_99 (lv_at hl 1 rfl) ?_
  refine lv_istore (lv' := [(8, .int x4), (0, .ref h), (4, .int x4), (5, .int x5), (7, .int x7)]) X.1 X.2.1 dX7_value_101 hl (by decide) rfl (fun ls hl => ?_)
  refine lv_iconst (v := 0) X.1 X.2.1 dX7_value_103 (by decide) ?_
  refine lv_istore (lv' := [(9, .int (0 : Int32)), (8, .int x4), (0, .ref h), (4, .int x4), (5, .int x5), (7, .int x7)]) X.1 X.2.1 dX7_value_104 hl (by decide) rfl (fun ls hl => ?_)
  obtain ⟨n, hw⟩ := hw
  exact rB_value_106 X hr hlk hR hK hA n x5 x7 x4 (0 : Int32) σ H locs ls (lv_sub hl [2, 4, 5, 1, 0] rfl) hO hw
def R_value_b97 (Q : Int64 → rS → Prop) (x4 : Int32) (x5 : Int32) (y0 : Int32) (σ : rS) : Prop :=
 R_value_b99 Q x4 x5 y0 σ
set_option maxHeartbeats 4000000 in
set_option maxRecDepth 100000 in
theorem rB_value_97 {Q : Int64 → rS → Prop} (X : CallFix p m c cX7_value 10 s args wsX7_value RX7) (hr : meth.sig.returnType = (some .long)) (hlk : meth.locks = false) (hR : 3 ≤ R.frames ∧ 70 ≤ R.locals) (hK : va_K (dC, dI) vwCl [(cI, .int), (cZ, .boolean)] s) (hA : ∀ q, s.heap.size ≤ q → A q) (x4 : Int32) (x5 : Int32) (y0 : Int32) (σ : rS) (H : Heap) (locs : List Loc) (ls : Array Slot) (hl : lv_has ls 10 [(0, .ref h), (4, .int x4), (5, .int x5)]) (hO : rO dC dI h a cI cZ A s.heap σ H locs) (hw : R_value_b97 Q x4 x5 y0 σ) : W p l e R s m args below meth c H locs 0 0 (MQ below (va_Ql Q (rAt dC dI A h a cI cZ) A) args s 0 0 A) (F0 m 97 ls [.int y0]) := by
  unfold R_value_b97 at hw
  refine lv_istore (lv' := [(7, .int y0), (0, .ref h), (4, .int x4), (5, .int x5)]) X.1 X.2.1 dX7_value_97 hl (by decide) rfl (fun ls hl => ?_)
  exact rB_value_99 X hr hlk hR hK hA x4 x5 y0 σ H locs ls (lv_sub hl [1, 2, 3, 0] rfl) hO hw
def R_value_b0 (Q : Int64 → rS → Prop) (x1 : Int32) (x2 : Int32) (x3 : Int32) (x4 : Int32) (σ : rS) : Prop :=
 R_holder_w (fun r3 t3 => (r3 < 0 → R_value_b26 Q t3) ∧ (¬ r3 < 0 → (x4 < 0 → R_value_b26 Q t3) ∧ (¬ x4 < 0 → R_isText_w (fun r20 t20 => (¬ r20 = 0 → R_firstNote_w (fun r34 t34 => vp_in (((4 : Int32) * r3) + r34) 64 ∧ R_lookUp_w (fun r57 t57 => (0 ≤ r57 → R_value_b99 Q x4 r3 r57 t57) ∧ (¬ 0 ≤ r57 → R_find_w (fun r69 t69 => (0 ≤ r69 → vp_in r69 16 ∧ R_lookUp_w (fun r94 t94 => R_value_b97 Q x4 r69 r94 t94) r69 (t69.2 17 r69.toNatClampNeg) x3 t69) ∧ (¬ 0 ≤ r69 → R_value_b97 Q x4 r69 (-1 : Int32) t69)) x2 t57)) r3 ((t34.2 16 (((4 : Int32) * r3) + r34).toNatClampNeg) + (1 : Int32)) x3 t34) r3 x2 t20) ∧ (r20 = 0 → R_value_b26 Q t20)) x3 t3))) x1 x2 σ
set_option maxHeartbeats 4000000 in
set_option maxRecDepth 100000 in
theorem rB_value_0 {Q : Int64 → rS → Prop} (X : CallFix p m c cX7_value 10 s args wsX7_value RX7) (hr : meth.sig.returnType = (some .long)) (hlk : meth.locks = false) (hR : 3 ≤ R.frames ∧ 70 ≤ R.locals) (hK : va_K (dC, dI) vwCl [(cI, .int), (cZ, .boolean)] s) (hA : ∀ q, s.heap.size ≤ q → A q) (x1 : Int32) (x2 : Int32) (x3 : Int32) (x4 : Int32) (σ : rS) (H : Heap) (locs : List Loc) (ls : Array Slot) (hl : lv_has ls 10 [(0, .ref h), (1, .int x1), (2, .int x2), (3, .int x3), (4, .int x4)]) (hO : rO dC dI h a cI cZ A s.heap σ H locs) (hw : R_value_b0 Q x1 x2 x3 x4 σ) : W p l e R s m args below meth c H locs 0 0 (MQ below (va_Ql Q (rAt dC dI A h a cI cZ) A) args s 0 0 A) (F0 m 0 ls []) := by
  unfold R_value_b0 at hw
  refine lv_aload_n X.1 X.2.1 dX7_value_0 rfl (lv_at hl 0 rfl) ?_
  refine lv_iload_n X.1 X.2.1 dX7_value_1 rfl (lv_at hl 1 rfl) ?_
  refine lv_iload_n X.1 X.2.1 dX7_value_2 rfl (lv_at hl 2 rfl) ?_
  refine r_calli (rest := []) (As := [.int x1, .int x2]) X (rC_holder l dC dI h a cI cZ σ H.size x1 x2 _ hw) (cwV 2 X.2.2.2.2 gX7_holder rfl rfl rfl hdX7_holder ⟨Nat.le_trans (by decide) hR.1, Nat.le_trans (by decide) hR.2⟩) hK hA hO rfl hl.1 rfl (Nat.le_of_ble_eq_true rfl) dX7_value_3 (fun r3 t3 H locs hO hw => ?_)
  refine lv_istore (lv' := [(5, .int r3), (0, .ref h), (1, .int x1), (2, .int x2), (3, .int x3), (4, .int x4)]) X.1 X.2.1 dX7_value_6 hl (by decide) rfl (fun ls hl => ?_)
  refine lv_iload X.1 X.2.1 dX7_value_8 (lv_at hl 0 rfl) ?_
  refine lv_if_lt (tgt := 26) X.1 X.2.1 dX7_value_10 rfl (fun hc9 => ?_) (fun hc9 => ?_)
  · have hw := hw.1 hc9
    exact rB_value_26 X hr hlk hR hK hA t3 H locs ls (lv_sub hl [1] rfl) hO hw
  · have hw := hw.2 hc9
    refine lv_iload X.1 X.2.1 dX7_value_13 (lv_at hl 5 rfl) ?_
    refine lv_if_lt (tgt := 26) X.1 X.2.1 dX7_value_15 rfl (fun hc9 => ?_) (fun hc9 => ?_)
    · have hw := hw.1 hc9
      exact rB_value_26 X hr hlk hR hK hA t3 H locs ls (lv_sub hl [1] rfl) hO hw
    · have hw := hw.2 hc9
      refine lv_aload_n X.1 X.2.1 dX7_value_18 rfl (lv_at hl 1 rfl) ?_
      refine lv_iload_n X.1 X.2.1 dX7_value_19 rfl (lv_at hl 4 rfl) ?_
      refine r_calli (rest := []) (As := [.int x3]) X (rC_isText l dC dI h a cI cZ t3 H.size x3 _ hw) (cwV 1 X.2.2.2.2 gX7_isText rfl rfl rfl hdX7_isText ⟨Nat.le_trans (by decide) hR.1, Nat.le_trans (by decide) hR.2⟩) hK hA hO rfl hl.1 rfl (Nat.le_of_ble_eq_true rfl) dX7_value_20 (fun r20 t20 H locs hO hw => ?_)
      refine lv_if_ne (tgt := 30) X.1 X.2.1 dX7_value_23 rfl (fun hc9 => ?_) (fun hc9 => ?_)
      · have hw := hw.1 hc9
        refine lv_aload_n X.1 X.2.1 dX7_value_30 rfl (lv_at hl 1 rfl) ?_
        refine lv_iload X.1 X.2.1 dX7_value_31 (lv_at hl 0 rfl) ?_
        refine lv_iload_n X.1 X.2.1 dX7_value_33 rfl (lv_at hl 3 rfl) ?_
        refine r_calli (rest := []) (As := [.int r3, .int x2]) X (rC_firstNote l dC dI h a cI cZ t20 H.size r3 x2 _ hw) (cwV 2 X.2.2.2.2 gX7_firstNote rfl rfl rfl hdX7_firstNote ⟨Nat.le_trans (by decide) hR.1, Nat.le_trans (by decide) hR.2⟩) hK hA hO rfl hl.1 rfl (Nat.le_of_ble_eq_true rfl) dX7_value_34 (fun r34 t34 H locs hO hw => ?_)
        refine lv_istore (lv' := [(6, .int r34), (5, .int r3), (0, .ref h), (1, .int x1), (2, .int x2), (3, .int x3), (4, .int x4)]) X.1 X.2.1 dX7_value_37 hl (by decide) rfl (fun ls hl => ?_)
        refine lv_aload_n X.1 X.2.1 dX7_value_39 rfl (lv_at hl 2 rfl) ?_
        refine lv_iload X.1 X.2.1 dX7_value_40 (lv_at hl 1 rfl) ?_
        refine lv_aload_n X.1 X.2.1 dX7_value_42 rfl (lv_at hl 2 rfl) ?_
        refine rf_note X hK hO dX7_value_43 ?_
        refine lv_iconst (v := 4) X.1 X.2.1 dX7_value_46 (by decide) ?_
        refine lv_iload X.1 X.2.1 dX7_value_47 (lv_at hl 1 rfl) ?_
        refine lv_imul X.1 X.2.1 dX7_value_49 ?_
        refine lv_iload X.1 X.2.1 dX7_value_50 (lv_at hl 0 rfl) ?_
        refine lv_iadd X.1 X.2.1 dX7_value_52 ?_
        obtain ⟨g53, hw⟩ := hw
        refine ra_note X.1 X.2.1 hK hO g53 dX7_value_53 ?_
        refine lv_iconst (v := 1) X.1 X.2.1 dX7_value_54 (by decide) ?_
        refine lv_iadd X.1 X.2.1 dX7_value_55 ?_
        refine lv_iload_n X.1 X.2.1 dX7_value_56 rfl (lv_at hl 5 rfl) ?_
        refine r_calli (rest := []) (As := [.int r3, .int ((t34.2 16 (((4 : Int32) * r3) + r34).toNatClampNeg) + (1 : Int32)), .int x3]) X (rC_lookUp l dC dI h a cI cZ t34 H.size r3 ((t34.2 16 (((4 : Int32) * r3) + r34).toNatClampNeg) + (1 : Int32)) x3 _ hw) (cwV 3 X.2.2.2.2 gX7_lookUp rfl rfl rfl hdX7_lookUp ⟨Nat.le_trans (by decide) hR.1, Nat.le_trans (by decide) hR.2⟩) hK hA hO rfl hl.1 rfl (Nat.le_of_ble_eq_true rfl) dX7_value_57 (fun r57 t57 H locs hO hw => ?_)
        refine lv_istore (lv' := [(7, .int r57), (6, .int r34), (5, .int r3), (0, .ref h), (1, .int x1), (2, .int x2), (3, .int x3), (4, .int x4)]) X.1 X.2.1 dX7_value_60 hl (by decide) rfl (fun ls hl => ?_)
        refine lv_iload X.1 X.2.1 dX7_value_62 (lv_at hl 0 rfl) ?_
        refine lv_if_ge (tgt := 99) X.1 X.2.1 dX7_value_64 rfl (fun hc9 => ?_) (fun hc9 => ?_)
        · have hw := hw.1 hc9
          exact rB_value_99 X hr hlk hR hK hA x4 r3 r57 t57 H locs ls (lv_sub hl [3, 7, 2, 0] rfl) hO hw
        · have hw := hw.2 hc9
          refine lv_aload_n X.1 X.2.1 dX7_value_67 rfl (lv_at hl 3 rfl) ?_
          refine lv_iload_n X.1 X.2.1 dX7_value_68 rfl (lv_at hl 5 rfl) ?_
          refine r_calli (rest := []) (As := [.int x2]) X (rC_find l dC dI h a cI cZ t57 H.size x2 _ hw) (cwV 1 X.2.2.2.2 gX7_find rfl rfl rfl hdX7_find ⟨Nat.le_trans (by decide) hR.1, Nat.le_trans (by decide) hR.2⟩) hK hA hO rfl hl.1 rfl (Nat.le_of_ble_eq_true rfl) dX7_value_69 (fun r69 t69 H locs hO hw => ?_)
          refine lv_istore (lv' := [(5, .int r69), (7, .int r57), (6, .int r34), (0, .ref h), (1, .int x1), (2, .int x2), (3, .int x3), (4, .int x4)]) X.1 X.2.1 dX7_value_72 hl (by decide) rfl (fun ls hl => ?_)
          refine lv_iload X.1 X.2.1 dX7_value_74 (lv_at hl 0 rfl) ?_
          refine lv_if_ge (tgt := 83) X.1 X.2.1 dX7_value_76 rfl (fun hc9 => ?_) (fun hc9 => ?_)
          · have hw := hw.1 hc9
            refine lv_aload_n X.1 X.2.1 dX7_value_83 rfl (lv_at hl 3 rfl) ?_
            refine lv_iload X.1 X.2.1 dX7_value_84 (lv_at hl 0 rfl) ?_
            refine lv_aload_n X.1 X.2.1 dX7_value_86 rfl (lv_at hl 3 rfl) ?_
            refine rf_rest X hK hO dX7_value_87 ?_
            refine lv_iload X.1 X.2.1 dX7_value_90 (lv_at hl 0 rfl) ?_
            obtain ⟨g92, hw⟩ := hw
            refine ra_rest X.1 X.2.1 hK hO g92 dX7_value_92 ?_
            refine lv_iload_n X.1 X.2.1 dX7_value_93 rfl (lv_at hl 6 rfl) ?_
            refine r_calli (rest := []) (As := [.int r69, .int (t69.2 17 r69.toNatClampNeg), .int x3]) X (rC_lookUp l dC dI h a cI cZ t69 H.size r69 (t69.2 17 r69.toNatClampNeg) x3 _ hw) (cwV 3 X.2.2.2.2 gX7_lookUp rfl rfl rfl hdX7_lookUp ⟨Nat.le_trans (by decide) hR.1, Nat.le_trans (by decide) hR.2⟩) hK hA hO rfl hl.1 rfl (Nat.le_of_ble_eq_true rfl) dX7_value_94 (fun r94 t94 H locs hO hw => ?_)
            exact rB_value_97 X hr hlk hR hK hA x4 r69 r94 t94 H locs ls (lv_sub hl [3, 7, 0] rfl) hO hw
          · have hw := hw.2 hc9
            refine lv_iconst (v := -1) X.1 X.2.1 dX7_value_79 (by decide) ?_
            refine lv_goto (tgt := 97) X.1 X.2.1 dX7_value_80 rfl ?_
            exact rB_value_97 X hr hlk hR hK hA x4 r69 (-1 : Int32) t69 H locs ls (lv_sub hl [3, 7, 0] rfl) hO hw
      · have hw := hw.2 hc9
        exact rB_value_26 X hr hlk hR hK hA t20 H locs ls (lv_sub hl [1] rfl) hO hw
def R_value_w (Q : Int64 → rS → Prop) (x1 : Int32) (x2 : Int32) (x3 : Int32) (x4 : Int32) (σ : rS) : Prop := R_value_b0 Q x1 x2 x3 x4 σ
abbrev rmX7_value : Room := { frames := 3, cells := 0, slots := 0, locals := 70 }
set_option maxHeartbeats 4000000 in
set_option maxRecDepth 100000 in
theorem rC_value (l : Launch) (dC : Nat → ClassId) (dI : Nat → Nat → Nat) (h : Nat) (a : Nat → Nat) (cI cZ : ClassId) (σ : rS) (sz : Nat) (x1 : Int32) (x2 : Int32) (x3 : Int32) (x4 : Int32) (Q : Int64 → rS → Prop) (hw : R_value_w Q x1 x2 x3 x4 σ) : Met l yX7_value wsX7_value rmX7_value (rPc dC dI h a cI cZ sz σ [.ref h, .int x1, .int x2, .int x3, .int x4]) (va_Ql Q (rAt dC dI (va_A (rCells h a cI cZ σ) sz) h a cI cZ) (va_A (rCells h a cI cZ σ) sz)) 0 0 (va_A (rCells h a cI cZ σ) sz) := by
  refine Met.ofW (cc := cX7_value) (maxL := 10) (ret := (some .long)) (by decide) rfl ?_
  intro p e s m args below meth c s₁ B hml hv
  obtain ⟨hargs, hsz, hP, hK, hD0⟩ := hv
  have hts := atoms_spec (ws := wsX7_value) B.pre
  have hown : s.vm.findClass RX7 = some m.cls := findClass_of_methodNamed B.named
  subst hsz
  subst hargs
  have hD := hD0.self (sz := s.heap.size)
  generalize hAe : va_A (rCells h a cI cZ σ) s.heap.size = A at hD ⊢
  have hA : ∀ q : Nat, s.heap.size ≤ q → A q := fun q h => by rw [← hAe]; exact Or.inr h
  have hl := lv_entry ([.ref h, .int x1, .int x2, .int x3, .int x4]) (n := 10) (Nat.le_of_ble_eq_true rfl)
  rw [lg_entry_eq]
  generalize (lg_sl ([.ref h, .int x1, .int x2, .int x3, .int x4]) ++ List.replicate (10 - (lg_sl ([.ref h, .int x1, .int x2, .int x3, .int x4])).length) Slot.unset).toArray = ls at hl ⊢
  have hl : lv_has ls 10 [(0, .ref h), (1, .int x1), (2, .int x2), (3, .int x3), (4, .int x4)] := hl
  unfold R_value_w at hw
  exact rB_value_0 ⟨B.exec, B.bytes, hml, hown, hts⟩ B.returns B.notSynchronized ⟨Nat.le_of_ble_eq_true rfl, Nat.le_of_ble_eq_true rfl⟩ hK hA x1 x2 x3 x4 σ s.heap [] ls (lv_sub hl [0, 1, 2, 3, 4] rfl) ⟨hP, hD, va_S.rf⟩ hw
end
