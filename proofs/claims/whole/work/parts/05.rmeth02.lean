section
variable {p : Program} {l : Launch} {e : Env} {R : Room} {s : State} {m : MethodId} {args : Array Value} {below : List Frame} {meth : Method} {c : Code}
variable {dC : Nat → ClassId} {dI : Nat → Nat → Nat} {h : Nat} {a : Nat → Nat} {cI cZ : ClassId} {A : Nat → Prop}
def R_oneValue_b136 (Q : Int32 → rS → Prop) (y0 : Int32) (y1 : Int32) (σ : rS) : Prop :=
 vp_in y1 7 ∧ ∀ t136 : rS, t136 = rA σ 26 y1 (vp_nar .boolean y0) → Q (1 : Int32) t136
set_option maxHeartbeats 4000000 in
set_option maxRecDepth 100000 in
theorem rB_oneValue_136 {Q : Int32 → rS → Prop} (X : CallFix p m c cX7_oneValue 4 s args wsX7_oneValue RX7) (hr : meth.sig.returnType = (some .boolean)) (hlk : meth.locks = false) (hR : 3 ≤ R.frames ∧ 66 ≤ R.locals) (hK : va_K (dC, dI) vwCl [(cI, .int), (cZ, .boolean)] s) (hA : ∀ q, s.heap.size ≤ q → A q) (y0 : Int32) (y1 : Int32) (σ : rS) (H : Heap) (locs : List Loc) (ls : Array Slot) (hl : lv_has ls 4 [(0, .ref h)]) (hO : rO dC dI h a cI cZ A s.heap σ H locs) (hw : R_oneValue_b136 Q y0 y1 σ) : W p l e R s m args below meth c H locs 0 0 (MQ below (va_Qi Q (rAt dC dI A h a cI cZ) A) args s 0 0 A) (F0 m 136 ls [.int y0, .int y1, .ref (a 26)]) := by
  unfold R_oneValue_b136 at hw
  obtain ⟨g136, hw⟩ := hw
  refine rs_named X.1 X.2.1 hK hO g136 dX7_oneValue_136 (fun H locs hO => ?_)
  obtain ⟨t136, e136⟩ : ∃ z, z = rA σ 26 y1 (vp_nar .boolean y0) := ⟨_, rfl⟩
  have hw := hw t136 e136
  rw [← e136] at hO
  refine lv_iconst (v := 1) X.1 X.2.1 dX7_oneValue_137 (by decide) ?_
  exact W.zret (v := (1 : Int32)) X.1 X.2.1 hr rfl (fun t ht hW => ⟨⟨(1 : Int32), t136, rfl, hw, rO_end hO hK ht hW⟩, hO.2.2.F ht⟩) hO.2.2.2.2 dX7_oneValue_138 hlk
def R_oneValue_b105 (Q : Int32 → rS → Prop) (x1 : Int32) (x3 : Int32) (σ : rS) : Prop :=
 R_many_w (fun r114 t114 => vp_in (x1 + (1 : Int32)) 7 ∧ ∀ t117 : rS, t117 = rA t114 25 (x1 + (1 : Int32)) r114 → (¬ x3 = (64 : Int32) → R_oneValue_b136 Q (0 : Int32) (x1 + (1 : Int32)) t117) ∧ (x3 = (64 : Int32) → R_oneValue_b136 Q (1 : Int32) (x1 + (1 : Int32)) t117)) (4 : Int32) σ
set_option maxHeartbeats 4000000 in
set_option maxRecDepth 100000 in
theorem rB_oneValue_105 {Q : Int32 → rS → Prop} (X : CallFix p m c cX7_oneValue 4 s args wsX7_oneValue RX7) (hr : meth.sig.returnType = (some .boolean)) (hlk : meth.locks = false) (hR : 3 ≤ R.frames ∧ 66 ≤ R.locals) (hK : va_K (dC, dI) vwCl [(cI, .int), (cZ, .boolean)] s) (hA : ∀ q, s.heap.size ≤ q → A q) (x1 : Int32) (x3 : Int32) (σ : rS) (H : Heap) (locs : List Loc) (ls : Array Slot) (hl : lv_has ls 4 [(0, .ref h), (1, .int x1), (3, .int x3)]) (hO : rO dC dI h a cI cZ A s.heap σ H locs) (hw : R_oneValue_b105 Q x1 x3 σ) : W p l e R s m args below meth c H locs 0 0 (MQ below (va_Qi Q (rAt dC dI A h a cI cZ) A) args s 0 0 A) (F0 m 105 ls []) := by
  unfold R_oneValue_b105 at hw
  refine lv_aload_n X.1 X.2.1 dX7_oneValue_105 rfl (lv_at hl 0 rfl) ?_
  refine rf_left X hK hO dX7_oneValue_106 ?_
  refine lv_iload_n X.1 X.2.1 dX7_oneValue_109 rfl (lv_at hl 1 rfl) ?_
  refine lv_iconst (v := 1) X.1 X.2.1 dX7_oneValue_110 (by decide) ?_
  refine lv_iadd X.1 X.2.1 dX7_oneValue_111 ?_
  refine lv_aload_n X.1 X.2.1 dX7_oneValue_112 rfl (lv_at hl 0 rfl) ?_
  refine lv_iconst (v := 4) X.1 X.2.1 dX7_oneValue_113 (by decide) ?_
  refine r_calli (rest := [.int (x1 + (1 : Int32)), .ref (a 25)]) (As := [.int (4 : Int32)]) X (rC_many l dC dI h a cI cZ σ H.size (4 : Int32) _ hw) (cwV 1 X.2.2.2.2 gX7_many rfl rfl rfl hdX7_many ⟨Nat.le_trans (by decide) hR.1, Nat.le_trans (by decide) hR.2⟩) hK hA hO rfl hl.1 rfl (Nat.le_of_ble_eq_true rfl) dX7_oneValue_114 (fun r114 t114 H locs hO hw => ?_)
  obtain ⟨g117, hw⟩ := hw
  refine rs_left X.1 X.2.1 hK hO g117 dX7_oneValue_117 (fun H locs hO => ?_)
  obtain ⟨t117, e117⟩ : ∃ z, z = rA t114 25 (x1 + (1 : Int32)) r114 := ⟨_, rfl⟩
  have hw := hw t117 e117
  rw [← e117] at hO
  refine lv_aload_n X.1 X.2.1 dX7_oneValue_118 rfl (lv_at hl 0 rfl) ?_
  refine rf_named X hK hO dX7_oneValue_119 ?_
  refine lv_iload_n X.1 X.2.1 dX7_oneValue_122 rfl (lv_at hl 1 rfl) ?_
  refine lv_iconst (v := 1) X.1 X.2.1 dX7_oneValue_123 (by decide) ?_
  refine lv_iadd X.1 X.2.1 dX7_oneValue_124 ?_
  refine lv_iload_n X.1 X.2.1 dX7_oneValue_125 rfl (lv_at hl 2 rfl) ?_
  refine lv_bipush (v := 64) X.1 X.2.1 dX7_oneValue_126 (by decide) ?_
  refine lv_icmp_ne (tgt := 135) X.1 X.2.1 dX7_oneValue_128 rfl (fun hc9 => ?_) (fun hc9 => ?_)
  · have hw := hw.1 hc9
    refine lv_iconst (v := 0) X.1 X.2.1 dX7_oneValue_135 (by decide) ?_
    exact rB_oneValue_136 X hr hlk hR hK hA (0 : Int32) (x1 + (1 : Int32)) t117 H locs ls (lv_sub hl [0] rfl) hO hw
  · have hw := hw.2 hc9
    refine lv_iconst (v := 1) X.1 X.2.1 dX7_oneValue_131 (by decide) ?_
    refine lv_goto (tgt := 136) X.1 X.2.1 dX7_oneValue_132 rfl ?_
    exact rB_oneValue_136 X hr hlk hR hK hA (1 : Int32) (x1 + (1 : Int32)) t117 H locs ls (lv_sub hl [0] rfl) hO hw
def R_oneValue_b92 (Q : Int32 → rS → Prop) (x1 : Int32) (x3 : Int32) (σ : rS) : Prop :=
 (¬ x3 = (64 : Int32) → R_oneValue_b105 Q x1 x3 σ) ∧ (x3 = (64 : Int32) → R_constant_w (fun r101 t101 => R_oneValue_b105 Q x1 x3 t101) (7 : Int32) σ)
set_option maxHeartbeats 4000000 in
set_option maxRecDepth 100000 in
theorem rB_oneValue_92 {Q : Int32 → rS → Prop} (X : CallFix p m c cX7_oneValue 4 s args wsX7_oneValue RX7) (hr : meth.sig.returnType = (some .boolean)) (hlk : meth.locks = false) (hR : 3 ≤ R.frames ∧ 66 ≤ R.locals) (hK : va_K (dC, dI) vwCl [(cI, .int), (cZ, .boolean)] s) (hA : ∀ q, s.heap.size ≤ q → A q) (x1 : Int32) (x3 : Int32) (σ : rS) (H : Heap) (locs : List Loc) (ls : Array Slot) (hl : lv_has ls 4 [(0, .ref h), (1, .int x1), (3, .int x3)]) (hO : rO dC dI h a cI cZ A s.heap σ H locs) (hw : R_oneValue_b92 Q x1 x3 σ) : W p l e R s m args below meth c H locs 0 0 (MQ below (va_Qi Q (rAt dC dI A h a cI cZ) A) args s 0 0 A) (F0 m 92 ls []) := by
  unfold R_oneValue_b92 at hw
  refine lv_iload_n X.1 X.2.1 dX7_oneValue_92 rfl (lv_at hl 2 rfl) ?_
  refine lv_bipush (v := 64) X.1 X.2.1 dX7_oneValue_93 (by decide) ?_
  refine lv_icmp_ne (tgt := 105) X.1 X.2.1 dX7_oneValue_95 rfl (fun hc9 => ?_) (fun hc9 => ?_)
  · have hw := hw.1 hc9
    exact rB_oneValue_105 X hr hlk hR hK hA x1 x3 σ H locs ls (lv_sub hl [0, 1, 2] rfl) hO hw
  · have hw := hw.2 hc9
    refine lv_aload_n X.1 X.2.1 dX7_oneValue_98 rfl (lv_at hl 0 rfl) ?_
    refine lv_bipush (v := 7) X.1 X.2.1 dX7_oneValue_99 (by decide) ?_
    refine r_calli (rest := []) (As := [.int (7 : Int32)]) X (rC_constant l dC dI h a cI cZ σ H.size (7 : Int32) _ hw) (cwV 1 X.2.2.2.2 gX7_constant rfl rfl rfl hdX7_constant ⟨Nat.le_trans (by decide) hR.1, Nat.le_trans (by decide) hR.2⟩) hK hA hO rfl hl.1 rfl (Nat.le_of_ble_eq_true rfl) dX7_oneValue_101 (fun r101 t101 H locs hO hw => ?_)
    refine lv_pop X.1 X.2.1 dX7_oneValue_104 rfl ?_
    exact rB_oneValue_105 X hr hlk hR hK hA x1 x3 t101 H locs ls (lv_sub hl [0, 1, 2] rfl) hO hw
def R_oneValue_b145 (Q : Int32 → rS → Prop) (σ : rS) : Prop :=
 Q (0 : Int32) σ
set_option maxHeartbeats 4000000 in
set_option maxRecDepth 100000 in
theorem rB_oneValue_145 {Q : Int32 → rS → Prop} (X : CallFix p m c cX7_oneValue 4 s args wsX7_oneValue RX7) (hr : meth.sig.returnType = (some .boolean)) (hlk : meth.locks = false) (hR : 3 ≤ R.frames ∧ 66 ≤ R.locals) (hK : va_K (dC, dI) vwCl [(cI, .int), (cZ, .boolean)] s) (hA : ∀ q, s.heap.size ≤ q → A q) (σ : rS) (H : Heap) (locs : List Loc) (ls : Array Slot) (hl : lv_has ls 4 [(0, .ref h)]) (hO : rO dC dI h a cI cZ A s.heap σ H locs) (hw : R_oneValue_b145 Q σ) : W p l e R s m args below meth c H locs 0 0 (MQ below (va_Qi Q (rAt dC dI A h a cI cZ) A) args s 0 0 A) (F0 m 145 ls []) := by
  unfold R_oneValue_b145 at hw
  refine lv_iconst (v := 0) X.1 X.2.1 dX7_oneValue_145 (by decide) ?_
  exact W.zret (v := (0 : Int32)) X.1 X.2.1 hr rfl (fun t ht hW => ⟨⟨(0 : Int32), σ, rfl, hw, rO_end hO hK ht hW⟩, hO.2.2.F ht⟩) hO.2.2.2.2 dX7_oneValue_146 hlk
def R_oneValue_b0 (Q : Int32 → rS → Prop) (x1 : Int32) (σ : rS) : Prop :=
 ∀ v4 : Int32, v4 = (σ.1 21) → R_take_w (fun r6 t6 => ((t6.1 23) = 0 → (¬ x1 = (5 : Int32) → (¬ r6 = (73 : Int32) → (¬ r6 = (115 : Int32) → (¬ r6 = (99 : Int32) → (r6 = (91 : Int32) → R_oneValue_b92 Q x1 r6 t6) ∧ (¬ r6 = (91 : Int32) → (¬ r6 = (64 : Int32) → R_fail_w (fun t142 => R_oneValue_b145 Q t142) (3 : Int32) v4 t6) ∧ (r6 = (64 : Int32) → R_oneValue_b92 Q x1 r6 t6))) ∧ (r6 = (99 : Int32) → R_constant_w (fun r73 t73 => R_oneValue_b145 Q t73) (7 : Int32) t6)) ∧ (r6 = (115 : Int32) → R_constant_w (fun r57 t57 => R_oneValue_b145 Q t57) (1 : Int32) t6)) ∧ (r6 = (73 : Int32) → R_constant_w (fun r42 t42 => R_oneValue_b145 Q t42) (3 : Int32) t6)) ∧ (x1 = (5 : Int32) → R_fail_w (fun t28 => R_oneValue_b145 Q t28) (7 : Int32) v4 t6)) ∧ (¬ (t6.1 23) = 0 → Q (0 : Int32) t6)) σ
set_option maxHeartbeats 4000000 in
set_option maxRecDepth 100000 in
theorem rB_oneValue_0 {Q : Int32 → rS → Prop} (X : CallFix p m c cX7_oneValue 4 s args wsX7_oneValue RX7) (hr : meth.sig.returnType = (some .boolean)) (hlk : meth.locks = false) (hR : 3 ≤ R.frames ∧ 66 ≤ R.locals) (hK : va_K (dC, dI) vwCl [(cI, .int), (cZ, .boolean)] s) (hA : ∀ q, s.heap.size ≤ q → A q) (x1 : Int32) (σ : rS) (H : Heap) (locs : List Loc) (ls : Array Slot) (hl : lv_has ls 4 [(0, .ref h), (1, .int x1)]) (hO : rO dC dI h a cI cZ A s.heap σ H locs) (hw : R_oneValue_b0 Q x1 σ) : W p l e R s m args below meth c H locs 0 0 (MQ below (va_Qi Q (rAt dC dI A h a cI cZ) A) args s 0 0 A) (F0 m 0 ls []) := by
  unfold R_oneValue_b0 at hw
  refine lv_aload_n X.1 X.2.1 dX7_oneValue_0 rfl (lv_at hl 0 rfl) ?_
  refine rf_at X hK hO dX7_oneValue_1 ?_
  refine lv_topi (fun v4 e4 => ?_)
  have hw := hw v4 e4
  refine lv_istore_n (lv' := [(2, .int v4), (0, .ref h), (1, .int x1)]) X.1 X.2.1 dX7_oneValue_4 rfl hl (by decide) rfl (fun ls hl => ?_)
  refine lv_aload_n X.1 X.2.1 dX7_oneValue_5 rfl (lv_at hl 1 rfl) ?_
  refine r_calli (rest := []) (As := []) X (rC_take l dC dI h a cI cZ σ H.size _ hw) (cwV 0 X.2.2.2.2 gX7_take rfl rfl rfl hdX7_take ⟨Nat.le_trans (by decide) hR.1, Nat.le_trans (by decide) hR.2⟩) hK hA hO rfl hl.1 rfl (Nat.le_of_ble_eq_true rfl) dX7_oneValue_6 (fun r6 t6 H locs hO hw => ?_)
  refine lv_istore_n (lv' := [(3, .int r6), (2, .int v4), (0, .ref h), (1, .int x1)]) X.1 X.2.1 dX7_oneValue_9 rfl hl (by decide) rfl (fun ls hl => ?_)
  refine lv_aload_n X.1 X.2.1 dX7_oneValue_10 rfl (lv_at hl 2 rfl) ?_
  refine rf_reason X hK hO dX7_oneValue_11 ?_
  refine lv_if_eq (tgt := 19) X.1 X.2.1 dX7_oneValue_14 rfl (fun hc9 => ?_) (fun hc9 => ?_)
  · have hw := hw.1 hc9
    refine lv_iload_n X.1 X.2.1 dX7_oneValue_19 rfl (lv_at hl 3 rfl) ?_
    refine lv_iconst (v := 5) X.1 X.2.1 dX7_oneValue_20 (by decide) ?_
    refine lv_icmp_ne (tgt := 34) X.1 X.2.1 dX7_oneValue_21 rfl (fun hc9 => ?_) (fun hc9 => ?_)
    · have hw := hw.1 hc9
      refine lv_iload_n X.1 X.2.1 dX7_oneValue_34 rfl (lv_at hl 0 rfl) ?_
      refine lv_bipush (v := 73) X.1 X.2.1 dX7_oneValue_35 (by decide) ?_
      refine lv_icmp_ne (tgt := 49) X.1 X.2.1 dX7_oneValue_37 rfl (fun hc9 => ?_) (fun hc9 => ?_)
      · have hw := hw.1 hc9
        refine lv_iload_n X.1 X.2.1 dX7_oneValue_49 rfl (lv_at hl 0 rfl) ?_
        refine lv_bipush (v := 115) X.1 X.2.1 dX7_oneValue_50 (by decide) ?_
        refine lv_icmp_ne (tgt := 64) X.1 X.2.1 dX7_oneValue_52 rfl (fun hc9 => ?_) (fun hc9 => ?_)
        · have hw := hw.1 hc9
          refine lv_iload_n X.1 X.2.1 dX7_oneValue_64 rfl (lv_at hl 0 rfl) ?_
          refine lv_bipush (v := 99) X.1 X.2.1 dX7_oneValue_65 (by decide) ?_
          refine lv_icmp_ne (tgt := 80) X.1 X.2.1 dX7_oneValue_67 rfl (fun hc9 => ?_) (fun hc9 => ?_)
          · have hw := hw.1 hc9
            refine lv_iload_n X.1 X.2.1 dX7_oneValue_80 rfl (lv_at hl 0 rfl) ?_
            refine lv_bipush (v := 91) X.1 X.2.1 dX7_oneValue_81 (by decide) ?_
            refine lv_icmp_eq (tgt := 92) X.1 X.2.1 dX7_oneValue_83 rfl (fun hc9 => ?_) (fun hc9 => ?_)
            · have hw := hw.1 hc9
              exact rB_oneValue_92 X hr hlk hR hK hA x1 r6 t6 H locs ls (lv_sub hl [2, 3, 0] rfl) hO hw
            · have hw := hw.2 hc9
              refine lv_iload_n X.1 X.2.1 dX7_oneValue_86 rfl (lv_at hl 0 rfl) ?_
              refine lv_bipush (v := 64) X.1 X.2.1 dX7_oneValue_87 (by decide) ?_
              refine lv_icmp_ne (tgt := 139) X.1 X.2.1 dX7_oneValue_89 rfl (fun hc9 => ?_) (fun hc9 => ?_)
              · have hw := hw.1 hc9
                refine lv_aload_n X.1 X.2.1 dX7_oneValue_139 rfl (lv_at hl 2 rfl) ?_
                refine lv_iconst (v := 3) X.1 X.2.1 dX7_oneValue_140 (by decide) ?_
                refine lv_iload_n X.1 X.2.1 dX7_oneValue_141 rfl (lv_at hl 1 rfl) ?_
                refine r_callv (rest := []) (As := [.int (3 : Int32), .int v4]) X (rC_fail l dC dI h a cI cZ t6 H.size (3 : Int32) v4 _ hw) (cwV 2 X.2.2.2.2 gX7_fail rfl rfl rfl hdX7_fail ⟨Nat.le_trans (by decide) hR.1, Nat.le_trans (by decide) hR.2⟩) hK hA hO rfl hl.1 rfl (Nat.le_of_ble_eq_true rfl) dX7_oneValue_142 (fun t142 H locs hO hw => ?_)
                exact rB_oneValue_145 X hr hlk hR hK hA t142 H locs ls (lv_sub hl [2] rfl) hO hw
              · have hw := hw.2 hc9
                exact rB_oneValue_92 X hr hlk hR hK hA x1 r6 t6 H locs ls (lv_sub hl [2, 3, 0] rfl) hO hw
          · have hw := hw.2 hc9
            refine lv_aload_n X.1 X.2.1 dX7_oneValue_70 rfl (lv_at hl 2 rfl) ?_
            refine lv_bipush (v := 7) X.1 X.2.1 dX7_oneValue_71 (by decide) ?_
            refine r_calli (rest := []) (As := [.int (7 : Int32)]) X (rC_constant l dC dI h a cI cZ t6 H.size (7 : Int32) _ hw) (cwV 1 X.2.2.2.2 gX7_constant rfl rfl rfl hdX7_constant ⟨Nat.le_trans (by decide) hR.1, Nat.le_trans (by decide) hR.2⟩) hK hA hO rfl hl.1 rfl (Nat.le_of_ble_eq_true rfl) dX7_oneValue_73 (fun r73 t73 H locs hO hw => ?_)
            refine lv_pop X.1 X.2.1 dX7_oneValue_76 rfl ?_
            refine lv_goto (tgt := 145) X.1 X.2.1 dX7_oneValue_77 rfl ?_
            exact rB_oneValue_145 X hr hlk hR hK hA t73 H locs ls (lv_sub hl [2] rfl) hO hw
        · have hw := hw.2 hc9
          refine lv_aload_n X.1 X.2.1 dX7_oneValue_55 rfl (lv_at hl 2 rfl) ?_
          refine lv_iconst (v := 1) X.1 X.2.1 dX7_oneValue_56 (by decide) ?_
          refine r_calli (rest := []) (As := [.int (1 : Int32)]) X (rC_constant l dC dI h a cI cZ t6 H.size (1 : Int32) _ hw) (cwV 1 X.2.2.2.2 gX7_constant rfl rfl rfl hdX7_constant ⟨Nat.le_trans (by decide) hR.1, Nat.le_trans (by decide) hR.2⟩) hK hA hO rfl hl.1 rfl (Nat.le_of_ble_eq_true rfl) dX7_oneValue_57 (fun r57 t57 H locs hO hw => ?_)
          refine lv_pop X.1 X.2.1 dX7_oneValue_60 rfl ?_
          refine lv_goto (tgt := 145) X.1 X.2.1 dX7_oneValue_61 rfl ?_
          exact rB_oneValue_145 X hr hlk hR hK hA t57 H locs ls (lv_sub hl [2] rfl) hO hw
      · have hw := hw.2 hc9
        refine lv_aload_n X.1 X.2.1 dX7_oneValue_40 rfl (lv_at hl 2 rfl) ?_
        refine lv_iconst (v := 3) X.1 X.2.1 dX7_oneValue_41 (by decide) ?_
        refine r_calli (rest := []) (As := [.int (3 : Int32)]) X (rC_constant l dC dI h a cI cZ t6 H.size (3 : Int32) _ hw) (cwV 1 X.2.2.2.2 gX7_constant rfl rfl rfl hdX7_constant ⟨Nat.le_trans (by decide) hR.1, Nat.le_trans (by decide) hR.2⟩) hK hA hO rfl hl.1 rfl (Nat.le_of_ble_eq_true rfl) dX7_oneValue_42 (fun r42 t42 H locs hO hw => ?_)
        refine lv_pop X.1 X.2.1 dX7_oneValue_45 rfl ?_
        refine lv_goto (tgt := 145) X.1 X.2.1 dX7_oneValue_46 rfl ?_
        exact rB_oneValue_145 X hr hlk hR hK hA t42 H locs ls (lv_sub hl [2] rfl) hO hw
    · have hw := hw.2 hc9
      refine lv_aload_n X.1 X.2.1 dX7_oneValue_24 rfl (lv_at hl 2 rfl) ?_
      refine lv_bipush (v := 7) X.1 X.2.1 dX7_oneValue_25 (by decide) ?_
      refine lv_iload_n X.1 X.2.1 dX7_oneValue_27 rfl (lv_at hl 1 rfl) ?_
      refine r_callv (rest := []) (As := [.int (7 : Int32), .int v4]) X (rC_fail l dC dI h a cI cZ t6 H.size (7 : Int32) v4 _ hw) (cwV 2 X.2.2.2.2 gX7_fail rfl rfl rfl hdX7_fail ⟨Nat.le_trans (by decide) hR.1, Nat.le_trans (by decide) hR.2⟩) hK hA hO rfl hl.1 rfl (Nat.le_of_ble_eq_true rfl) dX7_oneValue_28 (fun t28 H locs hO hw => ?_)
      refine lv_goto (tgt := 145) X.1 X.2.1 dX7_oneValue_31 rfl ?_
      exact rB_oneValue_145 X hr hlk hR hK hA t28 H locs ls (lv_sub hl [2] rfl) hO hw
  · have hw := hw.2 hc9
    refine lv_iconst (v := 0) X.1 X.2.1 dX7_oneValue_17 (by decide) ?_
    exact W.zret (v := (0 : Int32)) X.1 X.2.1 hr rfl (fun t ht hW => ⟨⟨(0 : Int32), t6, rfl, hw, rO_end hO hK ht hW⟩, hO.2.2.F ht⟩) hO.2.2.2.2 dX7_oneValue_18 hlk
def R_oneValue_w (Q : Int32 → rS → Prop) (x1 : Int32) (σ : rS) : Prop := R_oneValue_b0 Q x1 σ
abbrev rmX7_oneValue : Room := { frames := 3, cells := 0, slots := 0, locals := 66 }
set_option maxHeartbeats 4000000 in
set_option maxRecDepth 100000 in
theorem rC_oneValue (l : Launch) (dC : Nat → ClassId) (dI : Nat → Nat → Nat) (h : Nat) (a : Nat → Nat) (cI cZ : ClassId) (σ : rS) (sz : Nat) (x1 : Int32) (Q : Int32 → rS → Prop) (hw : R_oneValue_w Q x1 σ) : Met l yX7_oneValue wsX7_oneValue rmX7_oneValue (rPc dC dI h a cI cZ sz σ [.ref h, .int x1]) (va_Qi Q (rAt dC dI (va_A (rCells h a cI cZ σ) sz) h a cI cZ) (va_A (rCells h a cI cZ σ) sz)) 0 0 (va_A (rCells h a cI cZ σ) sz) := by
  refine Met.ofW (cc := cX7_oneValue) (maxL := 4) (ret := (some .boolean)) (by decide) rfl ?_
  intro p e s m args below meth c s₁ B hml hv
  obtain ⟨hargs, hsz, hP, hK, hD0⟩ := hv
  have hts := atoms_spec (ws := wsX7_oneValue) B.pre
  have hown : s.vm.findClass RX7 = some m.cls := findClass_of_methodNamed B.named
  subst hsz
  subst hargs
  have hD := hD0.self (sz := s.heap.size)
  generalize hAe : va_A (rCells h a cI cZ σ) s.heap.size = A at hD ⊢
  have hA : ∀ q : Nat, s.heap.size ≤ q → A q := fun q h => by rw [← hAe]; exact Or.inr h
  have hl := lv_entry ([.ref h, .int x1]) (n := 4) (Nat.le_of_ble_eq_true rfl)
  rw [lg_entry_eq]
  generalize (lg_sl ([.ref h, .int x1]) ++ List.replicate (4 - (lg_sl ([.ref h, .int x1])).length) Slot.unset).toArray = ls at hl ⊢
  have hl : lv_has ls 4 [(0, .ref h), (1, .int x1)] := hl
  unfold R_oneValue_w at hw
  exact rB_oneValue_0 ⟨B.exec, B.bytes, hml, hown, hts⟩ B.returns B.notSynchronized ⟨Nat.le_of_ble_eq_true rfl, Nat.le_of_ble_eq_true rfl⟩ hK hA x1 σ s.heap [] ls (lv_sub hl [0, 1] rfl) ⟨hP, hD, va_S.rf⟩ hw
def R_values_b88 (Q : rS → Prop) (σ : rS) : Prop :=
 Q σ
set_option maxHeartbeats 4000000 in
set_option maxRecDepth 100000 in
theorem rB_values_88 {Q : rS → Prop} (X : CallFix p m c cX7_values 3 s args wsX7_values RX7) (hr : meth.sig.returnType = none) (hlk : meth.locks = false) (hR : 4 ≤ R.frames ∧ 89 ≤ R.locals) (hK : va_K (dC, dI) vwCl [(cI, .int), (cZ, .boolean)] s) (hA : ∀ q, s.heap.size ≤ q → A q) (σ : rS) (H : Heap) (locs : List Loc) (ls : Array Slot) (hl : lv_has ls 3 [(0, .ref h)]) (hO : rO dC dI h a cI cZ A s.heap σ H locs) (hw : R_values_b88 Q σ) : W p l e R s m args below meth c H locs 0 0 (MQ below (va_Qv Q (rAt dC dI A h a cI cZ) A) args s 0 0 A) (F0 m 88 ls []) := by
  unfold R_values_b88 at hw
  exact W.vret X.1 X.2.1 hr (fun t ht hW => ⟨⟨σ, rfl, hw, rO_end hO hK ht hW⟩, hO.2.2.F ht⟩) hO.2.2.2.2 dX7_values_88 hlk
def R_values_b67 (Q : rS → Prop) (K16 : Int32 → rS → Prop) (x2 : Int32) (σ : rS) : Prop :=
 (¬ (σ.1 23) = 0 → K16 x2 σ) ∧ ((σ.1 23) = 0 → R_oneValue_w (fun r76 t76 => (r76 = 0 → K16 x2 t76) ∧ (¬ r76 = 0 → ∀ v82 : Int32, v82 = x2 + (1 : Int32) → K16 v82 t76)) x2 σ)
set_option maxHeartbeats 4000000 in
set_option maxRecDepth 100000 in
theorem rB_values_67 {Q : rS → Prop} {K16 : Int32 → rS → Prop} (X : CallFix p m c cX7_values 3 s args wsX7_values RX7) (hr : meth.sig.returnType = none) (hlk : meth.locks = false) (hR : 4 ≤ R.frames ∧ 89 ≤ R.locals) (hK : va_K (dC, dI) vwCl [(cI, .int), (cZ, .boolean)] s) (hA : ∀ q, s.heap.size ≤ q → A q) (k16 : ∀ (x2 : Int32) (σ : rS) (H : Heap) (locs : List Loc) (ls : Array Slot), lv_has ls 3 [(0, .ref h), (2, .int x2)] → rO dC dI h a cI cZ A s.heap σ H locs → K16 x2 σ → W p l e R s m args below meth c H locs 0 0 (MQ below (va_Qv Q (rAt dC dI A h a cI cZ) A) args s 0 0 A) (F0 m 16 ls [])) (x2 : Int32) (σ : rS) (H : Heap) (locs : List Loc) (ls : Array Slot) (hl : lv_has ls 3 [(0, .ref h), (2, .int x2)]) (hO : rO dC dI h a cI cZ A s.heap σ H locs) (hw : R_values_b67 Q K16 x2 σ) : W p l e R s m args below meth c H locs 0 0 (MQ below (va_Qv Q (rAt dC dI A h a cI cZ) A) args s 0 0 A) (F0 m 67 ls []) := by
  unfold R_values_b67 at hw
  refine lv_aload_n X.1 X.2.1 dX7_values_67 rfl (lv_at hl 0 rfl) ?_
  refine rf_reason X hK hO dX7_values_68 ?_
  refine lv_if_ne (tgt := 16) X.1 X.2.1 dX7_values_71 rfl (fun hc9 => ?_) (fun hc9 => ?_)
  · have hw := hw.1 hc9
    exact k16 x2 σ H locs ls (lv_sub hl [0, 1] rfl) hO hw
  · have hw := hw.2 hc9
    refine lv_aload_n X.1 X.2.1 dX7_values_74 rfl (lv_at hl 0 rfl) ?_
    refine lv_iload_n X.1 X.2.1 dX7_values_75 rfl (lv_at hl 1 rfl) ?_
    refine r_calli (rest := []) (As := [.int x2]) X (rC_oneValue l dC dI h a cI cZ σ H.size x2 _ hw) (cwV 1 X.2.2.2.2 gX7_oneValue rfl rfl rfl hdX7_oneValue ⟨Nat.le_trans (by decide) hR.1, Nat.le_trans (by decide) hR.2⟩) hK hA hO rfl hl.1 rfl (Nat.le_of_ble_eq_true rfl) dX7_values_76 (fun r76 t76 H locs hO hw => ?_)
    refine lv_if_eq (tgt := 16) X.1 X.2.1 dX7_values_79 rfl (fun hc9 => ?_) (fun hc9 => ?_)
    · have hw := hw.1 hc9
      exact k16 x2 t76 H locs ls (lv_sub hl [0, 1] rfl) hO hw
    · have hw := hw.2 hc9
      obtain ⟨v82, e82⟩ : ∃ z, z = x2 + (1 : Int32) := ⟨_, rfl⟩
      have hw := hw v82 e82
      refine lv_iinc (lv' := [(2, .int v82), (0, .ref h)]) (k := 1) (v := v82) X.1 X.2.1 dX7_values_82 hl rfl (by rw [e82]; rfl) (by decide) rfl (fun ls hl => ?_)
      refine lv_goto (tgt := 16) X.1 X.2.1 dX7_values_85 rfl ?_
      exact k16 v82 t76 H locs ls (lv_sub hl [1, 0] rfl) hO hw
def R_values_b16_s (Q : rS → Prop) (K16 : Int32 → rS → Prop) (x2 : Int32) (σ : rS) : Prop :=
 (x2 ≤ 0 → R_values_b88 Q σ) ∧ (¬ x2 ≤ 0 → (¬ (σ.1 23) = 0 → R_values_b88 Q σ) ∧ ((σ.1 23) = 0 → vp_in x2 7 ∧ (¬ (σ.2 25 x2.toNatClampNeg) = 0 → vp_in x2 7 ∧ vp_in x2 7 ∧ ∀ t51 : rS, t51 = rA σ 25 x2 ((σ.2 25 x2.toNatClampNeg) - (1 : Int32)) → vp_in x2 7 ∧ ((t51.2 26 x2.toNatClampNeg) = 0 → R_values_b67 Q K16 x2 t51) ∧ (¬ (t51.2 26 x2.toNatClampNeg) = 0 → R_constant_w (fun r63 t63 => R_values_b67 Q K16 x2 t63) (1 : Int32) t51)) ∧ ((σ.2 25 x2.toNatClampNeg) = 0 → ∀ v36 : Int32, v36 = x2 + (-1 : Int32) → K16 v36 σ)))
def R_values_b16_f (Q : rS → Prop) : (Int32 × rS → Prop) → Int32 × rS → Prop :=
 fun K z => R_values_b16_s Q (fun x2 σ => K (x2, σ)) z.1 z.2
def R_values_b16 (Q : rS → Prop) (x2 : Int32) (σ : rS) : Prop := ∃ n, fx (R_values_b16_f Q ) n (x2, σ)
set_option maxHeartbeats 4000000 in
set_option maxRecDepth 100000 in
theorem rB_values_16 {Q : rS → Prop} (X : CallFix p m c cX7_values 3 s args wsX7_values RX7) (hr : meth.sig.returnType = none) (hlk : meth.locks = false) (hR : 4 ≤ R.frames ∧ 89 ≤ R.locals) (hK : va_K (dC, dI) vwCl [(cI, .int), (cZ, .boolean)] s) (hA : ∀ q, s.heap.size ≤ q → A q) : ∀ (n : Nat) (x2 : Int32) (σ : rS) (H : Heap) (locs : List Loc) (ls : Array Slot), lv_has ls 3 [(0, .ref h), (2, .int x2)] → rO dC dI h a cI cZ A s.heap σ H locs → fx (R_values_b16_f Q ) n (x2, σ) → W p l e R s m args below meth c H locs 0 0 (MQ below (va_Qv Q (rAt dC dI A h a cI cZ) A) args s 0 0 A) (F0 m 16 ls []) := by
  intro n
  induction n with
  | zero => intro x2 σ H locs ls hl hO hw; exact False.elim hw
  | succ n k16 =>
    intro x2 σ H locs ls hl hO hw
    have hw : R_values_b16_s Q (fun x2 σ => fx (R_values_b16_f Q ) n (x2, σ)) x2 σ := hw
    unfold R_values_b16_s at hw
    refine lv_iload_n X.1 X.2.1 dX7_values_16 rfl (lv_at hl 1 rfl) ?_
    refine lv_if_le (tgt := 88) X.1 X.2.1 dX7_values_17 rfl (fun hc9 => ?_) (fun hc9 => ?_)
    · have hw := hw.1 hc9
      exact rB_values_88 X hr hlk hR hK hA σ H locs ls (lv_sub hl [0] rfl) hO hw
    · have hw := hw.2 hc9
      refine lv_aload_n X.1 X.2.1 dX7_values_20 rfl (lv_at hl 0 rfl) ?_
      refine rf_reason X hK hO dX7_values_21 ?_
      refine lv_if_ne (tgt := 88) X.1 X.2.1 dX7_values_24 rfl (fun hc9 => ?_) (fun hc9 => ?_)
      · have hw := hw.1 hc9
        exact rB_values_88 X hr hlk hR hK hA σ H locs ls (lv_sub hl [0] rfl) hO hw
      · have hw := hw.2 hc9
        refine lv_aload_n X.1 X.2.1 dX7_values_27 rfl (lv_at hl 0 rfl) ?_
        refine rf_left X hK hO dX7_values_28 ?_
        refine lv_iload_n X.1 X.2.1 dX7_values_31 rfl (lv_at hl 1 rfl) ?_
        obtain ⟨g32, hw⟩ := hw
        refine ra_left X.1 X.2.1 hK hO g32 dX7_values_32 ?_
        refine lv_if_ne (tgt := 42) X.1 X.2.1 dX7_values_33 rfl (fun hc9 => ?_) (fun hc9 => ?_)
        · have hw := hw.1 hc9
          refine lv_aload_n X.1 X.2.1 dX7_values_42 rfl (lv_at hl 0 rfl) ?_
          refine rf_left X hK hO dX7_values_43 ?_
          refine lv_iload_n X.1 X.2.1 dX7_values_46 rfl (lv_at hl 1 rfl) ?_
          refine lv_dup2_11 X.1 X.2.1 dX7_values_47 rfl rfl ?_
          obtain ⟨g48, hw⟩ := hw
          refine ra_left X.1 X.2.1 hK hO g48 dX7_values_48 ?_
          refine lv_iconst (v := 1) X.1 X.2.1 dX7_values_49 (by decide) ?_
          refine lv_isub X.1 X.2.1 dX7_values_50 ?_
          obtain ⟨g51, hw⟩ := hw
          refine rs_left X.1 X.2.1 hK hO g51 dX7_values_51 (fun H locs hO => ?_)
          obtain ⟨t51, e51⟩ : ∃ z, z = rA σ 25 x2 ((σ.2 25 x2.toNatClampNeg) - (1 : Int32)) := ⟨_, rfl⟩
          have hw := hw t51 e51
          rw [← e51] at hO
          refine lv_aload_n X.1 X.2.1 dX7_values_52 rfl (lv_at hl 0 rfl) ?_
          refine rf_named X hK hO dX7_values_53 ?_
          refine lv_iload_n X.1 X.2.1 dX7_values_56 rfl (lv_at hl 1 rfl) ?_
          obtain ⟨g57, hw⟩ := hw
          refine ra_named X.1 X.2.1 hK hO g57 dX7_values_57 ?_
          refine lv_if_eq (tgt := 67) X.1 X.2.1 dX7_values_58 rfl (fun hc9 => ?_) (fun hc9 => ?_)
          · have hw := hw.1 hc9
            exact rB_values_67 X hr hlk hR hK hA k16 x2 t51 H locs ls (lv_sub hl [0, 1] rfl) hO hw
          · have hw := hw.2 hc9
            refine lv_aload_n X.1 X.2.1 dX7_values_61 rfl (lv_at hl 0 rfl) ?_
            refine lv_iconst (v := 1) X.1 X.2.1 dX7_values_62 (by decide) ?_
            refine r_calli (rest := []) (As := [.int (1 : Int32)]) X (rC_constant l dC dI h a cI cZ t51 H.size (1 : Int32) _ hw) (cwV 1 X.2.2.2.2 gX7_constant rfl rfl rfl hdX7_constant ⟨Nat.le_trans (by decide) hR.1, Nat.le_trans (by decide) hR.2⟩) hK hA hO rfl hl.1 rfl (Nat.le_of_ble_eq_true rfl) dX7_values_63 (fun r63 t63 H locs hO hw => ?_)
            refine lv_pop X.1 X.2.1 dX7_values_66 rfl ?_
            exact rB_values_67 X hr hlk hR hK hA k16 x2 t63 H locs ls (lv_sub hl [0, 1] rfl) hO hw
        · have hw := hw.2 hc9
          obtain ⟨v36, e36⟩ : ∃ z, z = x2 + (-1 : Int32) := ⟨_, rfl⟩
          have hw := hw v36 e36
          refine lv_iinc (lv' := [(2, .int v36), (0, .ref h)]) (k := 1) (v := v36) X.1 X.2.1 dX7_values_36 hl rfl (by rw [e36]; rfl) (by decide) rfl (fun ls hl => ?_)
          refine lv_goto (tgt := 16) X.1 X.2.1 dX7_values_39 rfl ?_
          exact k16 v36 σ H locs ls (lv_sub hl [1, 0] rfl) hO hw
def R_values_b0 (Q : rS → Prop) (x1 : Int32) (σ : rS) : Prop :=
 ∀ t8 : rS, t8 = rA σ 25 (1 : Int32) x1 → ∀ t15 : rS, t15 = rA t8 26 (1 : Int32) (vp_nar .boolean (1 : Int32)) → R_values_b16 Q (1 : Int32) t15
set_option maxHeartbeats 4000000 in
set_option maxRecDepth 100000 in
theorem rB_values_0 {Q : rS → Prop} (X : CallFix p m c cX7_values 3 s args wsX7_values RX7) (hr : meth.sig.returnType = none) (hlk : meth.locks = false) (hR : 4 ≤ R.frames ∧ 89 ≤ R.locals) (hK : va_K (dC, dI) vwCl [(cI, .int), (cZ, .boolean)] s) (hA : ∀ q, s.heap.size ≤ q → A q) (x1 : Int32) (σ : rS) (H : Heap) (locs : List Loc) (ls : Array Slot) (hl : lv_has ls 3 [(0, .ref h), (1, .int x1)]) (hO : rO dC dI h a cI cZ A s.heap σ H locs) (hw : R_values_b0 Q x1 σ) : W p l e R s m args below meth c H locs 0 0 (MQ below (va_Qv Q (rAt dC dI A h a cI cZ) A) args s 0 0 A) (F0 m 0 ls []) := by
  unfold R_values_b0 at hw
  refine lv_iconst (v := 1) X.1 X.2.1 dX7_values_0 (by decide) ?_
  refine lv_istore_n (lv' := [(2, .int (1 : Int32)), (0, .ref h), (1, .int x1)]) X.1 X.2.1 dX7_values_1 rfl hl (by decide) rfl (fun ls hl => ?_)
  refine lv_aload_n X.1 X.2.1 dX7_values_2 rfl (lv_at hl 1 rfl) ?_
  refine rf_left X hK hO dX7_values_3 ?_
  refine lv_iconst (v := 1) X.1 X.2.1 dX7_values_6 (by decide) ?_
  refine lv_iload_n X.1 X.2.1 dX7_values_7 rfl (lv_at hl 2 rfl) ?_
  refine rs_left X.1 X.2.1 hK hO (by unfold vp_in; decide) dX7_values_8 (fun H locs hO => ?_)
  obtain ⟨t8, e8⟩ : ∃ z, z = rA σ 25 (1 : Int32) x1 := ⟨_, rfl⟩
  have hw := hw t8 e8
  rw [← e8] at hO
  refine lv_aload_n X.1 X.2.1 dX7_values_9 rfl (lv_at hl 1 rfl) ?_
  refine rf_named X hK hO dX7_values_10 ?_
  refine lv_iconst (v := 1) X.1 X.2.1 dX7_values_13 (by decide) ?_
  refine lv_iconst (v := 1) X.1 X.2.1 dX7_values_14 (by decide) ?_
  refine rs_named X.1 X.2.1 hK hO (by unfold vp_in; decide) dX7_values_15 (fun H locs hO => ?_)
  obtain ⟨t15, e15⟩ : ∃ z, z = rA t8 26 (1 : Int32) (vp_nar .boolean (1 : Int32)) := ⟨_, rfl⟩
  have hw := hw t15 e15
  rw [← e15] at hO
  obtain ⟨n, hw⟩ := hw
  exact rB_values_16 X hr hlk hR hK hA n (1 : Int32) t15 H locs ls (lv_sub hl [1, 0] rfl) hO hw
def R_values_w (Q : rS → Prop) (x1 : Int32) (σ : rS) : Prop := R_values_b0 Q x1 σ
abbrev rmX7_values : Room := { frames := 4, cells := 0, slots := 0, locals := 89 }
set_option maxHeartbeats 4000000 in
set_option maxRecDepth 100000 in
theorem rC_values (l : Launch) (dC : Nat → ClassId) (dI : Nat → Nat → Nat) (h : Nat) (a : Nat → Nat) (cI cZ : ClassId) (σ : rS) (sz : Nat) (x1 : Int32) (Q : rS → Prop) (hw : R_values_w Q x1 σ) : Met l yX7_values wsX7_values rmX7_values (rPc dC dI h a cI cZ sz σ [.ref h, .int x1]) (va_Qv Q (rAt dC dI (va_A (rCells h a cI cZ σ) sz) h a cI cZ) (va_A (rCells h a cI cZ σ) sz)) 0 0 (va_A (rCells h a cI cZ σ) sz) := by
  refine Met.ofW (cc := cX7_values) (maxL := 3) (ret := none) (by decide) rfl ?_
  intro p e s m args below meth c s₁ B hml hv
  obtain ⟨hargs, hsz, hP, hK, hD0⟩ := hv
  have hts := atoms_spec (ws := wsX7_values) B.pre
  have hown : s.vm.findClass RX7 = some m.cls := findClass_of_methodNamed B.named
  subst hsz
  subst hargs
  have hD := hD0.self (sz := s.heap.size)
  generalize hAe : va_A (rCells h a cI cZ σ) s.heap.size = A at hD ⊢
  have hA : ∀ q : Nat, s.heap.size ≤ q → A q := fun q h => by rw [← hAe]; exact Or.inr h
  have hl := lv_entry ([.ref h, .int x1]) (n := 3) (Nat.le_of_ble_eq_true rfl)
  rw [lg_entry_eq]
  generalize (lg_sl ([.ref h, .int x1]) ++ List.replicate (3 - (lg_sl ([.ref h, .int x1])).length) Slot.unset).toArray = ls at hl ⊢
  have hl : lv_has ls 3 [(0, .ref h), (1, .int x1)] := hl
  unfold R_values_w at hw
  exact rB_values_0 ⟨B.exec, B.bytes, hml, hown, hts⟩ B.returns B.notSynchronized ⟨Nat.le_of_ble_eq_true rfl, Nat.le_of_ble_eq_true rfl⟩ hK hA x1 σ s.heap [] ls (lv_sub hl [0, 1] rfl) ⟨hP, hD, va_S.rf⟩ hw
def R_sameText_b72 (Q : Int32 → rS → Prop) (x3 : Int32) (σ : rS) : Prop :=
 zb x3 ∧ Q x3 σ
set_option maxHeartbeats 4000000 in
set_option maxRecDepth 100000 in
theorem rB_sameText_72 {Q : Int32 → rS → Prop} (X : CallFix p m c cX7_sameText 5 s args wsX7_sameText RX7) (hr : meth.sig.returnType = (some .boolean)) (hlk : meth.locks = false) (hR : 0 ≤ R.frames ∧ 0 ≤ R.locals) (hK : va_K (dC, dI) vwCl [(cI, .int), (cZ, .boolean)] s) (hA : ∀ q, s.heap.size ≤ q → A q) (x3 : Int32) (σ : rS) (H : Heap) (locs : List Loc) (ls : Array Slot) (hl : lv_has ls 5 [(0, .ref h), (3, .int x3)]) (hO : rO dC dI h a cI cZ A s.heap σ H locs) (hw : R_sameText_b72 Q x3 σ) : W p l e R s m args below meth c H locs 0 0 (MQ below (va_Qi Q (rAt dC dI A h a cI cZ) A) args s 0 0 A) (F0 m 72 ls []) := by
  unfold R_sameText_b72 at hw
  refine lv_iload_n X.1 X.2.1 dX7_sameText_72 rfl (lv_at hl 1 rfl) ?_
  obtain ⟨hz, hw⟩ := hw
  exact W.zret (v := x3) X.1 X.2.1 hr hz (fun t ht hW => ⟨⟨x3, σ, rfl, hw, rO_end hO hK ht hW⟩, hO.2.2.F ht⟩) hO.2.2.2.2 dX7_sameText_73 hlk
def R_sameText_b65 (Q : Int32 → rS → Prop) (K24 : Int32 → Int32 → Int32 → Int32 → rS → Prop) (x1 : Int32) (x2 : Int32) (x4 : Int32) (y0 : Int32) (σ : rS) : Prop :=
 ∀ v66 : Int32, v66 = x4 + (1 : Int32) → K24 x1 x2 y0 v66 σ
set_option maxHeartbeats 4000000 in
set_option maxRecDepth 100000 in
theorem rB_sameText_65 {Q : Int32 → rS → Prop} {K24 : Int32 → Int32 → Int32 → Int32 → rS → Prop} (X : CallFix p m c cX7_sameText 5 s args wsX7_sameText RX7) (hr : meth.sig.returnType = (some .boolean)) (hlk : meth.locks = false) (hR : 0 ≤ R.frames ∧ 0 ≤ R.locals) (hK : va_K (dC, dI) vwCl [(cI, .int), (cZ, .boolean)] s) (hA : ∀ q, s.heap.size ≤ q → A q) (k24 : ∀ (x1 : Int32) (x2 : Int32) (x3 : Int32) (x4 : Int32) (σ : rS) (H : Heap) (locs : List Loc) (ls : Array Slot), lv_has ls 5 [(0, .ref h), (1, .int x1), (2, .int x2), (3, .int x3), (4, .int x4)] → rO dC dI h a cI cZ A s.heap σ H locs → K24 x1 x2 x3 x4 σ → W p l e R s m args below meth c H locs 0 0 (MQ below (va_Qi Q (rAt dC dI A h a cI cZ) A) args s 0 0 A) (F0 m 24 ls [])) (x1 : Int32) (x2 : Int32) (x4 : Int32) (y0 : Int32) (σ : rS) (H : Heap) (locs : List Loc) (ls : Array Slot) (hl : lv_has ls 5 [(0, .ref h), (1, .int x1), (2, .int x2), (4, .int x4)]) (hO : rO dC dI h a cI cZ A s.heap σ H locs) (hw : R_sameText_b65 Q K24 x1 x2 x4 y0 σ) : W p l e R s m args below meth c H locs 0 0 (MQ below (va_Qi Q (rAt dC dI A h a cI cZ) A) args s 0 0 A) (F0 m 65 ls [.int y0]) := by
  unfold R_sameText_b65 at hw
  refine lv_istore_n (lv' := [(3, .int y0), (0, .ref h), (1, .int x1), (2, .int x2), (4, .int x4)]) X.1 X.2.1 dX7_sameText_65 rfl hl (by decide) rfl (fun ls hl => ?_)
  obtain ⟨v66, e66⟩ : ∃ z, z = x4 + (1 : Int32) := ⟨_, rfl⟩
  have hw := hw v66 e66
  refine lv_iinc (lv' := [(4, .int v66), (3, .int y0), (0, .ref h), (1, .int x1), (2, .int x2)]) (k := 4) (v := v66) X.1 X.2.1 dX7_sameText_66 hl rfl (by rw [e66]; rfl) (by decide) rfl (fun ls hl => ?_)
  refine lv_goto (tgt := 24) X.1 X.2.1 dX7_sameText_69 rfl ?_
  exact k24 x1 x2 y0 v66 σ H locs ls (lv_sub hl [2, 3, 4, 1, 0] rfl) hO hw
def R_sameText_b24_s (Q : Int32 → rS → Prop) (K24 : Int32 → Int32 → Int32 → Int32 → rS → Prop) (x1 : Int32) (x2 : Int32) (x3 : Int32) (x4 : Int32) (σ : rS) : Prop :=
 vp_in x1 1920 ∧ ((σ.2 2 x1.toNatClampNeg) < x4 → R_sameText_b72 Q x3 σ) ∧ (¬ (σ.2 2 x1.toNatClampNeg) < x4 → (x3 = 0 → R_sameText_b72 Q x3 σ) ∧ (¬ x3 = 0 → vp_in (x1 + x4) 1920 ∧ vp_in (x2 + x4) 1920 ∧ (¬ (σ.2 2 (x1 + x4).toNatClampNeg) = (σ.2 2 (x2 + x4).toNatClampNeg) → R_sameText_b65 Q K24 x1 x2 x4 (0 : Int32) σ) ∧ ((σ.2 2 (x1 + x4).toNatClampNeg) = (σ.2 2 (x2 + x4).toNatClampNeg) → R_sameText_b65 Q K24 x1 x2 x4 (1 : Int32) σ)))
def R_sameText_b24_f (Q : Int32 → rS → Prop) : (Int32 × Int32 × Int32 × Int32 × rS → Prop) → Int32 × Int32 × Int32 × Int32 × rS → Prop :=
 fun K z => R_sameText_b24_s Q (fun x1 x2 x3 x4 σ => K (x1, x2, x3, x4, σ)) z.1 z.2.1 z.2.2.1 z.2.2.2.1 z.2.2.2.2
def R_sameText_b24 (Q : Int32 → rS → Prop) (x1 : Int32) (x2 : Int32) (x3 : Int32) (x4 : Int32) (σ : rS) : Prop := ∃ n, fx (R_sameText_b24_f Q ) n (x1, x2, x3, x4, σ)
set_option maxHeartbeats 4000000 in
set_option maxRecDepth 100000 in
theorem rB_sameText_24 {Q : Int32 → rS → Prop} (X : CallFix p m c cX7_sameText 5 s args wsX7_sameText RX7) (hr : meth.sig.returnType = (some .boolean)) (hlk : meth.locks = false) (hR : 0 ≤ R.frames ∧ 0 ≤ R.locals) (hK : va_K (dC, dI) vwCl [(cI, .int), (cZ, .boolean)] s) (hA : ∀ q, s.heap.size ≤ q → A q) : ∀ (n : Nat) (x1 : Int32) (x2 : Int32) (x3 : Int32) (x4 : Int32) (σ : rS) (H : Heap) (locs : List Loc) (ls : Array Slot), lv_has ls 5 [(0, .ref h), (1, .int x1), (2, .int x2), (3, .int x3), (4, .int x4)] → rO dC dI h a cI cZ A s.heap σ H locs → fx (R_sameText_b24_f Q ) n (x1, x2, x3, x4, σ) → W p l e R s m args below meth c H locs 0 0 (MQ below (va_Qi Q (rAt dC dI A h a cI cZ) A) args s 0 0 A) (F0 m 24 ls []) := by
  intro n
  induction n with
  | zero => intro x1 x2 x3 x4 σ H locs ls hl hO hw; exact False.elim hw
  | succ n k24 =>
    intro x1 x2 x3 x4 σ H locs ls hl hO hw
    have hw : R_sameText_b24_s Q (fun x1 x2 x3 x4 σ => fx (R_sameText_b24_f Q ) n (x1, x2, x3, x4, σ)) x1 x2 x3 x4 σ := hw
    unfold R_sameText_b24_s at hw
    refine lv_iload X.1 X.2.1 dX7_sameText_24 (lv_at hl 4 rfl) ?_
    refine lv_aload_n X.1 X.2.1 dX7_sameText_26 rfl (lv_at hl 0 rfl) ?_
    refine rf_bytes X hK hO dX7_sameText_27 ?_
    refine lv_iload_n X.1 X.2.1 dX7_sameText_30 rfl (lv_at hl 1 rfl) ?_
    obtain ⟨g31, hw⟩ := hw
    refine ra_bytes X.1 X.2.1 hK hO g31 dX7_sameText_31 ?_
    refine lv_icmp_gt (tgt := 72) X.1 X.2.1 dX7_sameText_32 rfl (fun hc9 => ?_) (fun hc9 => ?_)
    · have hw := hw.1 hc9
      exact rB_sameText_72 X hr hlk hR hK hA x3 σ H locs ls (lv_sub hl [0, 3] rfl) hO hw
    · have hw := hw.2 hc9
      refine lv_iload_n X.1 X.2.1 dX7_sameText_35 rfl (lv_at hl 3 rfl) ?_
      refine lv_if_eq (tgt := 72) X.1 X.2.1 dX7_sameText_36 rfl (fun hc9 => ?_) (fun hc9 => ?_)
      · have hw := hw.1 hc9
        exact rB_sameText_72 X hr hlk hR hK hA x3 σ H locs ls (lv_sub hl [0, 3] rfl) hO hw
      · have hw := hw.2 hc9
        refine lv_aload_n X.1 X.2.1 dX7_sameText_39 rfl (lv_at hl 0 rfl) ?_
        refine rf_bytes X hK hO dX7_sameText_40 ?_
        refine lv_iload_n X.1 X.2.1 dX7_sameText_43 rfl (lv_at hl 1 rfl) ?_
        refine lv_iload X.1 X.2.1 dX7_sameText_44 (lv_at hl 4 rfl) ?_
        refine lv_iadd X.1 X.2.1 dX7_sameText_46 ?_
        obtain ⟨g47, hw⟩ := hw
        refine ra_bytes X.1 X.2.1 hK hO g47 dX7_sameText_47 ?_
        refine lv_aload_n X.1 X.2.1 dX7_sameText_48 rfl (lv_at hl 0 rfl) ?_
        refine rf_bytes X hK hO dX7_sameText_49 ?_
        refine lv_iload_n X.1 X.2.1 dX7_sameText_52 rfl (lv_at hl 2 rfl) ?_
        refine lv_iload X.1 X.2.1 dX7_sameText_53 (lv_at hl 4 rfl) ?_
        refine lv_iadd X.1 X.2.1 dX7_sameText_55 ?_
        obtain ⟨g56, hw⟩ := hw
        refine ra_bytes X.1 X.2.1 hK hO g56 dX7_sameText_56 ?_
        refine lv_icmp_ne (tgt := 64) X.1 X.2.1 dX7_sameText_57 rfl (fun hc9 => ?_) (fun hc9 => ?_)
        · have hw := hw.1 hc9
          refine lv_iconst (v := 0) X.1 X.2.1 dX7_sameText_64 (by decide) ?_
          exact rB_sameText_65 X hr hlk hR hK hA k24 x1 x2 x4 (0 : Int32) σ H locs ls (lv_sub hl [0, 1, 2, 4] rfl) hO hw
        · have hw := hw.2 hc9
          refine lv_iconst (v := 1) X.1 X.2.1 dX7_sameText_60 (by decide) ?_
          refine lv_goto (tgt := 65) X.1 X.2.1 dX7_sameText_61 rfl ?_
          exact rB_sameText_65 X hr hlk hR hK hA k24 x1 x2 x4 (1 : Int32) σ H locs ls (lv_sub hl [0, 1, 2, 4] rfl) hO hw
def R_sameText_b20 (Q : Int32 → rS → Prop) (x1 : Int32) (x2 : Int32) (y0 : Int32) (σ : rS) : Prop :=
 R_sameText_b24 Q x1 x2 y0 (1 : Int32) σ
set_option maxHeartbeats 4000000 in
set_option maxRecDepth 100000 in
theorem rB_sameText_20 {Q : Int32 → rS → Prop} (X : CallFix p m c cX7_sameText 5 s args wsX7_sameText RX7) (hr : meth.sig.returnType = (some .boolean)) (hlk : meth.locks = false) (hR : 0 ≤ R.frames ∧ 0 ≤ R.locals) (hK : va_K (dC, dI) vwCl [(cI, .int), (cZ, .boolean)] s) (hA : ∀ q, s.heap.size ≤ q → A q) (x1 : Int32) (x2 : Int32) (y0 : Int32) (σ : rS) (H : Heap) (locs : List Loc) (ls : Array Slot) (hl : lv_has ls 5 [(0, .ref h), (1, .int x1), (2, .int x2)]) (hO : rO dC dI h a cI cZ A s.heap σ H locs) (hw : R_sameText_b20 Q x1 x2 y0 σ) : W p l e R s m args below meth c H locs 0 0 (MQ below (va_Qi Q (rAt dC dI A h a cI cZ) A) args s 0 0 A) (F0 m 20 ls [.int y0]) := by
  unfold R_sameText_b20 at hw
  refine lv_istore_n (lv' := [(3, .int y0), (0, .ref h), (1, .int x1), (2, .int x2)]) X.1 X.2.1 dX7_sameText_20 rfl hl (by decide) rfl (fun ls hl => ?_)
  refine lv_iconst (v := 1) X.1 X.2.1 dX7_sameText_21 (by decide) ?_
  refine lv_istore (lv' := [(4, .int (1 : Int32)), (3, .int y0), (0, .ref h), (1, .int x1), (2, .int x2)]) X.1 X.2.1 dX7_sameText_22 hl (by decide) rfl (fun ls hl => ?_)
  obtain ⟨n, hw⟩ := hw
  exact rB_sameText_24 X hr hlk hR hK hA n x1 x2 y0 (1 : Int32) σ H locs ls (lv_sub hl [2, 3, 4, 1, 0] rfl) hO hw
def R_sameText_b0 (Q : Int32 → rS → Prop) (x1 : Int32) (x2 : Int32) (σ : rS) : Prop :=
 vp_in x1 1920 ∧ vp_in x2 1920 ∧ (¬ (σ.2 2 x1.toNatClampNeg) = (σ.2 2 x2.toNatClampNeg) → R_sameText_b20 Q x1 x2 (0 : Int32) σ) ∧ ((σ.2 2 x1.toNatClampNeg) = (σ.2 2 x2.toNatClampNeg) → R_sameText_b20 Q x1 x2 (1 : Int32) σ)
set_option maxHeartbeats 4000000 in
set_option maxRecDepth 100000 in
theorem rB_sameText_0 {Q : Int32 → rS → Prop} (X : CallFix p m c cX7_sameText 5 s args wsX7_sameText RX7) (hr : meth.sig.returnType = (some .boolean)) (hlk : meth.locks = false) (hR : 0 ≤ R.frames ∧ 0 ≤ R.locals) (hK : va_K (dC, dI) vwCl [(cI, .int), (cZ, .boolean)] s) (hA : ∀ q, s.heap.size ≤ q → A q) (x1 : Int32) (x2 : Int32) (σ : rS) (H : Heap) (locs : List Loc) (ls : Array Slot) (hl : lv_has ls 5 [(0, .ref h), (1, .int x1), (2, .int x2)]) (hO : rO dC dI h a cI cZ A s.heap σ H locs) (hw : R_sameText_b0 Q x1 x2 σ) : W p l e R s m args below meth c H locs 0 0 (MQ below (va_Qi Q (rAt dC dI A h a cI cZ) A) args s 0 0 A) (F0 m 0 ls []) := by
  unfold R_sameText_b0 at hw
  refine lv_aload_n X.1 X.2.1 dX7_sameText_0 rfl (lv_at hl 0 rfl) ?_
  refine rf_bytes X hK hO dX7_sameText_1 ?_
  refine lv_iload_n X.1 X.2.1 dX7_sameText_4 rfl (lv_at hl 1 rfl) ?_
  obtain ⟨g5, hw⟩ := hw
  refine ra_bytes X.1 X.2.1 hK hO g5 dX7_sameText_5 ?_
  refine lv_aload_n X.1 X.2.1 dX7_sameText_6 rfl (lv_at hl 0 rfl) ?_
  refine rf_bytes X hK hO dX7_sameText_7 ?_
  refine lv_iload_n X.1 X.2.1 dX7_sameText_10 rfl (lv_at hl 2 rfl) ?_
  obtain ⟨g11, hw⟩ := hw
  refine ra_bytes X.1 X.2.1 hK hO g11 dX7_sameText_11 ?_
  refine lv_icmp_ne (tgt := 19) X.1 X.2.1 dX7_sameText_12 rfl (fun hc9 => ?_) (fun hc9 => ?_)
  · have hw := hw.1 hc9
    refine lv_iconst (v := 0) X.1 X.2.1 dX7_sameText_19 (by decide) ?_
    exact rB_sameText_20 X hr hlk hR hK hA x1 x2 (0 : Int32) σ H locs ls (lv_sub hl [0, 1, 2] rfl) hO hw
  · have hw := hw.2 hc9
    refine lv_iconst (v := 1) X.1 X.2.1 dX7_sameText_15 (by decide) ?_
    refine lv_goto (tgt := 20) X.1 X.2.1 dX7_sameText_16 rfl ?_
    exact rB_sameText_20 X hr hlk hR hK hA x1 x2 (1 : Int32) σ H locs ls (lv_sub hl [0, 1, 2] rfl) hO hw
def R_sameText_w (Q : Int32 → rS → Prop) (x1 : Int32) (x2 : Int32) (σ : rS) : Prop := R_sameText_b0 Q x1 x2 σ
abbrev rmX7_sameText : Room := { frames := 0, cells := 0, slots := 0, locals := 0 }
set_option maxHeartbeats 4000000 in
set_option maxRecDepth 100000 in
theorem rC_sameText (l : Launch) (dC : Nat → ClassId) (dI : Nat → Nat → Nat) (h : Nat) (a : Nat → Nat) (cI cZ : ClassId) (σ : rS) (sz : Nat) (x1 : Int32) (x2 : Int32) (Q : Int32 → rS → Prop) (hw : R_sameText_w Q x1 x2 σ) : Met l yX7_sameText wsX7_sameText rmX7_sameText (rPc dC dI h a cI cZ sz σ [.ref h, .int x1, .int x2]) (va_Qi Q (rAt dC dI (va_A (rCells h a cI cZ σ) sz) h a cI cZ) (va_A (rCells h a cI cZ σ) sz)) 0 0 (va_A (rCells h a cI cZ σ) sz) := by
  refine Met.ofW (cc := cX7_sameText) (maxL := 5) (ret := (some .boolean)) (by decide) rfl ?_
  intro p e s m args below meth c s₁ B hml hv
  obtain ⟨hargs, hsz, hP, hK, hD0⟩ := hv
  have hts := atoms_spec (ws := wsX7_sameText) B.pre
  have hown : s.vm.findClass RX7 = some m.cls := findClass_of_methodNamed B.named
  subst hsz
  subst hargs
  have hD := hD0.self (sz := s.heap.size)
  generalize hAe : va_A (rCells h a cI cZ σ) s.heap.size = A at hD ⊢
  have hA : ∀ q : Nat, s.heap.size ≤ q → A q := fun q h => by rw [← hAe]; exact Or.inr h
  have hl := lv_entry ([.ref h, .int x1, .int x2]) (n := 5) (Nat.le_of_ble_eq_true rfl)
  rw [lg_entry_eq]
  generalize (lg_sl ([.ref h, .int x1, .int x2]) ++ List.replicate (5 - (lg_sl ([.ref h, .int x1, .int x2])).length) Slot.unset).toArray = ls at hl ⊢
  have hl : lv_has ls 5 [(0, .ref h), (1, .int x1), (2, .int x2)] := hl
  unfold R_sameText_w at hw
  exact rB_sameText_0 ⟨B.exec, B.bytes, hml, hown, hts⟩ B.returns B.notSynchronized ⟨Nat.le_of_ble_eq_true rfl, Nat.le_of_ble_eq_true rfl⟩ hK hA x1 x2 σ s.heap [] ls (lv_sub hl [0, 1, 2] rfl) ⟨hP, hD, va_S.rf⟩ hw
def R_textPlace_b62 (Q : Int32 → rS → Prop) (y0 : Int32) (σ : rS) : Prop :=
 Q y0 σ
set_option maxHeartbeats 4000000 in
set_option maxRecDepth 100000 in
theorem rB_textPlace_62 {Q : Int32 → rS → Prop} (X : CallFix p m c cX7_textPlace 3 s args wsX7_textPlace RX7) (hr : meth.sig.returnType = (some .int)) (hlk : meth.locks = false) (hR : 0 ≤ R.frames ∧ 0 ≤ R.locals) (hK : va_K (dC, dI) vwCl [(cI, .int), (cZ, .boolean)] s) (hA : ∀ q, s.heap.size ≤ q → A q) (y0 : Int32) (σ : rS) (H : Heap) (locs : List Loc) (ls : Array Slot) (hl : lv_has ls 3 [(0, .ref h)]) (hO : rO dC dI h a cI cZ A s.heap σ H locs) (hw : R_textPlace_b62 Q y0 σ) : W p l e R s m args below meth c H locs 0 0 (MQ below (va_Qi Q (rAt dC dI A h a cI cZ) A) args s 0 0 A) (F0 m 62 ls [.int y0]) := by
  unfold R_textPlace_b62 at hw
  exact W.iret (v := y0) X.1 X.2.1 hr (fun t ht hW => ⟨⟨y0, σ, rfl, hw, rO_end hO hK ht hW⟩, hO.2.2.F ht⟩) hO.2.2.2.2 dX7_textPlace_62 hlk
def R_textPlace_b0 (Q : Int32 → rS → Prop) (x1 : Int32) (σ : rS) : Prop :=
 vp_in (((13 : Int32) * (σ.1 18)) + x1) 208 ∧ ∀ v14 : Int32, v14 = (σ.2 7 (((13 : Int32) * (σ.1 18)) + x1).toNatClampNeg) → vp_in (((13 : Int32) * (σ.1 18)) + x1) 208 ∧ (¬ (σ.2 6 (((13 : Int32) * (σ.1 18)) + x1).toNatClampNeg) = (1 : Int32) → vp_in (v14 + (1 : Int32)) 1920 ∧ vp_in (((13 : Int32) * (σ.1 18)) + (σ.2 2 (v14 + (1 : Int32)).toNatClampNeg)) 208 ∧ R_textPlace_b62 Q ((σ.2 7 (((13 : Int32) * (σ.1 18)) + (σ.2 2 (v14 + (1 : Int32)).toNatClampNeg)).toNatClampNeg) + (1 : Int32)) σ) ∧ ((σ.2 6 (((13 : Int32) * (σ.1 18)) + x1).toNatClampNeg) = (1 : Int32) → R_textPlace_b62 Q (v14 + (1 : Int32)) σ)
set_option maxHeartbeats 4000000 in
set_option maxRecDepth 100000 in
theorem rB_textPlace_0 {Q : Int32 → rS → Prop} (X : CallFix p m c cX7_textPlace 3 s args wsX7_textPlace RX7) (hr : meth.sig.returnType = (some .int)) (hlk : meth.locks = false) (hR : 0 ≤ R.frames ∧ 0 ≤ R.locals) (hK : va_K (dC, dI) vwCl [(cI, .int), (cZ, .boolean)] s) (hA : ∀ q, s.heap.size ≤ q → A q) (x1 : Int32) (σ : rS) (H : Heap) (locs : List Loc) (ls : Array Slot) (hl : lv_has ls 3 [(0, .ref h), (1, .int x1)]) (hO : rO dC dI h a cI cZ A s.heap σ H locs) (hw : R_textPlace_b0 Q x1 σ) : W p l e R s m args below meth c H locs 0 0 (MQ below (va_Qi Q (rAt dC dI A h a cI cZ) A) args s 0 0 A) (F0 m 0 ls []) := by
  unfold R_textPlace_b0 at hw
  refine lv_aload_n X.1 X.2.1 dX7_textPlace_0 rfl (lv_at hl 0 rfl) ?_
  refine rf_place X hK hO dX7_textPlace_1 ?_
  refine lv_bipush (v := 13) X.1 X.2.1 dX7_textPlace_4 (by decide) ?_
  refine lv_aload_n X.1 X.2.1 dX7_textPlace_6 rfl (lv_at hl 0 rfl) ?_
  refine rf_now X hK hO dX7_textPlace_7 ?_
  refine lv_imul X.1 X.2.1 dX7_textPlace_10 ?_
  refine lv_iload_n X.1 X.2.1 dX7_textPlace_11 rfl (lv_at hl 1 rfl) ?_
  refine lv_iadd X.1 X.2.1 dX7_textPlace_12 ?_
  obtain ⟨g13, hw⟩ := hw
  refine ra_place X.1 X.2.1 hK hO g13 dX7_textPlace_13 ?_
  refine lv_topi (fun v14 e14 => ?_)
  have hw := hw v14 e14
  refine lv_istore_n (lv' := [(2, .int v14), (0, .ref h), (1, .int x1)]) X.1 X.2.1 dX7_textPlace_14 rfl hl (by decide) rfl (fun ls hl => ?_)
  refine lv_aload_n X.1 X.2.1 dX7_textPlace_15 rfl (lv_at hl 1 rfl) ?_
  refine rf_sort X hK hO dX7_textPlace_16 ?_
  refine lv_bipush (v := 13) X.1 X.2.1 dX7_textPlace_19 (by decide) ?_
  refine lv_aload_n X.1 X.2.1 dX7_textPlace_21 rfl (lv_at hl 1 rfl) ?_
  refine rf_now X hK hO dX7_textPlace_22 ?_
  refine lv_imul X.1 X.2.1 dX7_textPlace_25 ?_
  refine lv_iload_n X.1 X.2.1 dX7_textPlace_26 rfl (lv_at hl 2 rfl) ?_
  refine lv_iadd X.1 X.2.1 dX7_textPlace_27 ?_
  obtain ⟨g28, hw⟩ := hw
  refine ra_sort X.1 X.2.1 hK hO g28 dX7_textPlace_28 ?_
  refine lv_iconst (v := 1) X.1 X.2.1 dX7_textPlace_29 (by decide) ?_
  refine lv_icmp_ne (tgt := 39) X.1 X.2.1 dX7_textPlace_30 rfl (fun hc9 => ?_) (fun hc9 => ?_)
  · have hw := hw.1 hc9
    refine lv_aload_n X.1 X.2.1 dX7_textPlace_39 rfl (lv_at hl 1 rfl) ?_
    refine rf_place X hK hO dX7_textPlace_40 ?_
    refine lv_bipush (v := 13) X.1 X.2.1 dX7_textPlace_43 (by decide) ?_
    refine lv_aload_n X.1 X.2.1 dX7_textPlace_45 rfl (lv_at hl 1 rfl) ?_
    refine rf_now X hK hO dX7_textPlace_46 ?_
    refine lv_imul X.1 X.2.1 dX7_textPlace_49 ?_
    refine lv_aload_n X.1 X.2.1 dX7_textPlace_50 rfl (lv_at hl 1 rfl) ?_
    refine rf_bytes X hK hO dX7_textPlace_51 ?_
    refine lv_iload_n X.1 X.2.1 dX7_textPlace_54 rfl (lv_at hl 0 rfl) ?_
    refine lv_iconst (v := 1) X.1 X.2.1 dX7_textPlace_55 (by decide) ?_
    refine lv_iadd X.1 X.2.1 dX7_textPlace_56 ?_
    obtain ⟨g57, hw⟩ := hw
    refine ra_bytes X.1 X.2.1 hK hO g57 dX7_textPlace_57 ?_
    refine lv_iadd X.1 X.2.1 dX7_textPlace_58 ?_
    obtain ⟨g59, hw⟩ := hw
    refine ra_place X.1 X.2.1 hK hO g59 dX7_textPlace_59 ?_
    refine lv_iconst (v := 1) X.1 X.2.1 dX7_textPlace_60 (by decide) ?_
    refine lv_iadd X.1 X.2.1 dX7_textPlace_61 ?_
    exact rB_textPlace_62 X hr hlk hR hK hA ((σ.2 7 (((13 : Int32) * (σ.1 18)) + (σ.2 2 (v14 + (1 : Int32)).toNatClampNeg)).toNatClampNeg) + (1 : Int32)) σ H locs ls (lv_sub hl [1] rfl) hO hw
  · have hw := hw.2 hc9
    refine lv_iload_n X.1 X.2.1 dX7_textPlace_33 rfl (lv_at hl 0 rfl) ?_
    refine lv_iconst (v := 1) X.1 X.2.1 dX7_textPlace_34 (by decide) ?_
    refine lv_iadd X.1 X.2.1 dX7_textPlace_35 ?_
    refine lv_goto (tgt := 62) X.1 X.2.1 dX7_textPlace_36 rfl ?_
    exact rB_textPlace_62 X hr hlk hR hK hA (v14 + (1 : Int32)) σ H locs ls (lv_sub hl [1] rfl) hO hw
def R_textPlace_w (Q : Int32 → rS → Prop) (x1 : Int32) (σ : rS) : Prop := R_textPlace_b0 Q x1 σ
abbrev rmX7_textPlace : Room := { frames := 0, cells := 0, slots := 0, locals := 0 }
set_option maxHeartbeats 4000000 in
set_option maxRecDepth 100000 in
theorem rC_textPlace (l : Launch) (dC : Nat → ClassId) (dI : Nat → Nat → Nat) (h : Nat) (a : Nat → Nat) (cI cZ : ClassId) (σ : rS) (sz : Nat) (x1 : Int32) (Q : Int32 → rS → Prop) (hw : R_textPlace_w Q x1 σ) : Met l yX7_textPlace wsX7_textPlace rmX7_textPlace (rPc dC dI h a cI cZ sz σ [.ref h, .int x1]) (va_Qi Q (rAt dC dI (va_A (rCells h a cI cZ σ) sz) h a cI cZ) (va_A (rCells h a cI cZ σ) sz)) 0 0 (va_A (rCells h a cI cZ σ) sz) := by
  refine Met.ofW (cc := cX7_textPlace) (maxL := 3) (ret := (some .int)) (by decide) rfl ?_
  intro p e s m args below meth c s₁ B hml hv
  obtain ⟨hargs, hsz, hP, hK, hD0⟩ := hv
  have hts := atoms_spec (ws := wsX7_textPlace) B.pre
  have hown : s.vm.findClass RX7 = some m.cls := findClass_of_methodNamed B.named
  subst hsz
  subst hargs
  have hD := hD0.self (sz := s.heap.size)
  generalize hAe : va_A (rCells h a cI cZ σ) s.heap.size = A at hD ⊢
  have hA : ∀ q : Nat, s.heap.size ≤ q → A q := fun q h => by rw [← hAe]; exact Or.inr h
  have hl := lv_entry ([.ref h, .int x1]) (n := 3) (Nat.le_of_ble_eq_true rfl)
  rw [lg_entry_eq]
  generalize (lg_sl ([.ref h, .int x1]) ++ List.replicate (3 - (lg_sl ([.ref h, .int x1])).length) Slot.unset).toArray = ls at hl ⊢
  have hl : lv_has ls 3 [(0, .ref h), (1, .int x1)] := hl
  unfold R_textPlace_w at hw
  exact rB_textPlace_0 ⟨B.exec, B.bytes, hml, hown, hts⟩ B.returns B.notSynchronized ⟨Nat.le_of_ble_eq_true rfl, Nat.le_of_ble_eq_true rfl⟩ hK hA x1 σ s.heap [] ls (lv_sub hl [0, 1] rfl) ⟨hP, hD, va_S.rf⟩ hw
def R_taken_b8_s (Q : Int32 → rS → Prop) (K8 : Int32 → Int32 → rS → Prop) (x2 : Int32) (x3 : Int32) (σ : rS) : Prop :=
 ((σ.1 3) ≤ x3 → Q (0 : Int32) σ) ∧ (¬ (σ.1 3) ≤ x3 → vp_in x3 16 ∧ vp_in (σ.2 10 x3.toNatClampNeg) 192 ∧ R_sameText_w (fun r29 t29 => (r29 = 0 → ∀ v37 : Int32, v37 = x3 + (1 : Int32) → K8 x2 v37 t29) ∧ (¬ r29 = 0 → Q (1 : Int32) t29)) (σ.2 4 (σ.2 10 x3.toNatClampNeg).toNatClampNeg) x2 σ)
def R_taken_b8_f (Q : Int32 → rS → Prop) : (Int32 × Int32 × rS → Prop) → Int32 × Int32 × rS → Prop :=
 fun K z => R_taken_b8_s Q (fun x2 x3 σ => K (x2, x3, σ)) z.1 z.2.1 z.2.2
def R_taken_b8 (Q : Int32 → rS → Prop) (x2 : Int32) (x3 : Int32) (σ : rS) : Prop := ∃ n, fx (R_taken_b8_f Q ) n (x2, x3, σ)
set_option maxHeartbeats 4000000 in
set_option maxRecDepth 100000 in
theorem rB_taken_8 {Q : Int32 → rS → Prop} (X : CallFix p m c cX7_taken 4 s args wsX7_taken RX7) (hr : meth.sig.returnType = (some .boolean)) (hlk : meth.locks = false) (hR : 1 ≤ R.frames ∧ 24 ≤ R.locals) (hK : va_K (dC, dI) vwCl [(cI, .int), (cZ, .boolean)] s) (hA : ∀ q, s.heap.size ≤ q → A q) : ∀ (n : Nat) (x2 : Int32) (x3 : Int32) (σ : rS) (H : Heap) (locs : List Loc) (ls : Array Slot), lv_has ls 4 [(0, .ref h), (2, .int x2), (3, .int x3)] → rO dC dI h a cI cZ A s.heap σ H locs → fx (R_taken_b8_f Q ) n (x2, x3, σ) → W p l e R s m args below meth c H locs 0 0 (MQ below (va_Qi Q (rAt dC dI A h a cI cZ) A) args s 0 0 A) (F0 m 8 ls []) := by
  intro n
  induction n with
  | zero => intro x2 x3 σ H locs ls hl hO hw; exact False.elim hw
  | succ n k8 =>
    intro x2 x3 σ H locs ls hl hO hw
    have hw : R_taken_b8_s Q (fun x2 x3 σ => fx (R_taken_b8_f Q ) n (x2, x3, σ)) x2 x3 σ := hw
    unfold R_taken_b8_s at hw
    refine lv_iload_n X.1 X.2.1 dX7_taken_8 rfl (lv_at hl 2 rfl) ?_
    refine lv_aload_n X.1 X.2.1 dX7_taken_9 rfl (lv_at hl 0 rfl) ?_
    refine rf_classes X hK hO dX7_taken_10 ?_
    refine lv_icmp_ge (tgt := 43) X.1 X.2.1 dX7_taken_13 rfl (fun hc9 => ?_) (fun hc9 => ?_)
    · have hw := hw.1 hc9
      refine lv_iconst (v := 0) X.1 X.2.1 dX7_taken_43 (by decide) ?_
      exact W.zret (v := (0 : Int32)) X.1 X.2.1 hr rfl (fun t ht hW => ⟨⟨(0 : Int32), σ, rfl, hw, rO_end hO hK ht hW⟩, hO.2.2.F ht⟩) hO.2.2.2.2 dX7_taken_44 hlk
    · have hw := hw.2 hc9
      refine lv_aload_n X.1 X.2.1 dX7_taken_16 rfl (lv_at hl 0 rfl) ?_
      refine lv_aload_n X.1 X.2.1 dX7_taken_17 rfl (lv_at hl 0 rfl) ?_
      refine rf_textAt X hK hO dX7_taken_18 ?_
      refine lv_aload_n X.1 X.2.1 dX7_taken_21 rfl (lv_at hl 0 rfl) ?_
      refine rf_self X hK hO dX7_taken_22 ?_
      refine lv_iload_n X.1 X.2.1 dX7_taken_25 rfl (lv_at hl 2 rfl) ?_
      obtain ⟨g26, hw⟩ := hw
      refine ra_self X.1 X.2.1 hK hO g26 dX7_taken_26 ?_
      obtain ⟨g27, hw⟩ := hw
      refine ra_textAt X.1 X.2.1 hK hO g27 dX7_taken_27 ?_
      refine lv_iload_n X.1 X.2.1 dX7_taken_28 rfl (lv_at hl 1 rfl) ?_
      refine r_calli (rest := []) (As := [.int (σ.2 4 (σ.2 10 x3.toNatClampNeg).toNatClampNeg), .int x2]) X (rC_sameText l dC dI h a cI cZ σ H.size (σ.2 4 (σ.2 10 x3.toNatClampNeg).toNatClampNeg) x2 _ hw) (cwV 2 X.2.2.2.2 gX7_sameText rfl rfl rfl hdX7_sameText ⟨Nat.le_trans (by decide) hR.1, Nat.le_trans (by decide) hR.2⟩) hK hA hO rfl hl.1 rfl (Nat.le_of_ble_eq_true rfl) dX7_taken_29 (fun r29 t29 H locs hO hw => ?_)
      refine lv_if_eq (tgt := 37) X.1 X.2.1 dX7_taken_32 rfl (fun hc9 => ?_) (fun hc9 => ?_)
      · have hw := hw.1 hc9
        obtain ⟨v37, e37⟩ : ∃ z, z = x3 + (1 : Int32) := ⟨_, rfl⟩
        have hw := hw v37 e37
        refine lv_iinc (lv' := [(3, .int v37), (0, .ref h), (2, .int x2)]) (k := 2) (v := v37) X.1 X.2.1 dX7_taken_37 hl rfl (by rw [e37]; rfl) (by decide) rfl (fun ls hl => ?_)
        refine lv_goto (tgt := 8) X.1 X.2.1 dX7_taken_40 rfl ?_
        exact k8 x2 v37 t29 H locs ls (lv_sub hl [1, 2, 0] rfl) hO hw
      · have hw := hw.2 hc9
        refine lv_iconst (v := 1) X.1 X.2.1 dX7_taken_35 (by decide) ?_
        exact W.zret (v := (1 : Int32)) X.1 X.2.1 hr rfl (fun t ht hW => ⟨⟨(1 : Int32), t29, rfl, hw, rO_end hO hK ht hW⟩, hO.2.2.F ht⟩) hO.2.2.2.2 dX7_taken_36 hlk
def R_taken_b0 (Q : Int32 → rS → Prop) (x1 : Int32) (σ : rS) : Prop :=
 R_textPlace_w (fun r2 t2 => R_taken_b8 Q r2 (0 : Int32) t2) x1 σ
set_option maxHeartbeats 4000000 in
set_option maxRecDepth 100000 in
theorem rB_taken_0 {Q : Int32 → rS → Prop} (X : CallFix p m c cX7_taken 4 s args wsX7_taken RX7) (hr : meth.sig.returnType = (some .boolean)) (hlk : meth.locks = false) (hR : 1 ≤ R.frames ∧ 24 ≤ R.locals) (hK : va_K (dC, dI) vwCl [(cI, .int), (cZ, .boolean)] s) (hA : ∀ q, s.heap.size ≤ q → A q) (x1 : Int32) (σ : rS) (H : Heap) (locs : List Loc) (ls : Array Slot) (hl : lv_has ls 4 [(0, .ref h), (1, .int x1)]) (hO : rO dC dI h a cI cZ A s.heap σ H locs) (hw : R_taken_b0 Q x1 σ) : W p l e R s m args below meth c H locs 0 0 (MQ below (va_Qi Q (rAt dC dI A h a cI cZ) A) args s 0 0 A) (F0 m 0 ls []) := by
  unfold R_taken_b0 at hw
  refine lv_aload_n X.1 X.2.1 dX7_taken_0 rfl (lv_at hl 0 rfl) ?_
  refine lv_iload_n X.1 X.2.1 dX7_taken_1 rfl (lv_at hl 1 rfl) ?_
  refine r_calli (rest := []) (As := [.int x1]) X (rC_textPlace l dC dI h a cI cZ σ H.size x1 _ hw) (cwV 1 X.2.2.2.2 gX7_textPlace rfl rfl rfl hdX7_textPlace ⟨Nat.le_trans (by decide) hR.1, Nat.le_trans (by decide) hR.2⟩) hK hA hO rfl hl.1 rfl (Nat.le_of_ble_eq_true rfl) dX7_taken_2 (fun r2 t2 H locs hO hw => ?_)
  refine lv_istore_n (lv' := [(2, .int r2), (0, .ref h), (1, .int x1)]) X.1 X.2.1 dX7_taken_5 rfl hl (by decide) rfl (fun ls hl => ?_)
  refine lv_iconst (v := 0) X.1 X.2.1 dX7_taken_6 (by decide) ?_
  refine lv_istore_n (lv' := [(3, .int (0 : Int32)), (2, .int r2), (0, .ref h), (1, .int x1)]) X.1 X.2.1 dX7_taken_7 rfl hl (by decide) rfl (fun ls hl => ?_)
  obtain ⟨n, hw⟩ := hw
  exact rB_taken_8 X hr hlk hR hK hA n r2 (0 : Int32) t2 H locs ls (lv_sub hl [2, 1, 0] rfl) hO hw
def R_taken_w (Q : Int32 → rS → Prop) (x1 : Int32) (σ : rS) : Prop := R_taken_b0 Q x1 σ
abbrev rmX7_taken : Room := { frames := 1, cells := 0, slots := 0, locals := 24 }
set_option maxHeartbeats 4000000 in
set_option maxRecDepth 100000 in
theorem rC_taken (l : Launch) (dC : Nat → ClassId) (dI : Nat → Nat → Nat) (h : Nat) (a : Nat → Nat) (cI cZ : ClassId) (σ : rS) (sz : Nat) (x1 : Int32) (Q : Int32 → rS → Prop) (hw : R_taken_w Q x1 σ) : Met l yX7_taken wsX7_taken rmX7_taken (rPc dC dI h a cI cZ sz σ [.ref h, .int x1]) (va_Qi Q (rAt dC dI (va_A (rCells h a cI cZ σ) sz) h a cI cZ) (va_A (rCells h a cI cZ σ) sz)) 0 0 (va_A (rCells h a cI cZ σ) sz) := by
  refine Met.ofW (cc := cX7_taken) (maxL := 4) (ret := (some .boolean)) (by decide) rfl ?_
  intro p e s m args below meth c s₁ B hml hv
  obtain ⟨hargs, hsz, hP, hK, hD0⟩ := hv
  have hts := atoms_spec (ws := wsX7_taken) B.pre
  have hown : s.vm.findClass RX7 = some m.cls := findClass_of_methodNamed B.named
  subst hsz
  subst hargs
  have hD := hD0.self (sz := s.heap.size)
  generalize hAe : va_A (rCells h a cI cZ σ) s.heap.size = A at hD ⊢
  have hA : ∀ q : Nat, s.heap.size ≤ q → A q := fun q h => by rw [← hAe]; exact Or.inr h
  have hl := lv_entry ([.ref h, .int x1]) (n := 4) (Nat.le_of_ble_eq_true rfl)
  rw [lg_entry_eq]
  generalize (lg_sl ([.ref h, .int x1]) ++ List.replicate (4 - (lg_sl ([.ref h, .int x1])).length) Slot.unset).toArray = ls at hl ⊢
  have hl : lv_has ls 4 [(0, .ref h), (1, .int x1)] := hl
  unfold R_taken_w at hw
  exact rB_taken_0 ⟨B.exec, B.bytes, hml, hown, hts⟩ B.returns B.notSynchronized ⟨Nat.le_of_ble_eq_true rfl, Nat.le_of_ble_eq_true rfl⟩ hK hA x1 σ s.heap [] ls (lv_sub hl [0, 1] rfl) ⟨hP, hD, va_S.rf⟩ hw
end
