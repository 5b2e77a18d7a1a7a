section
variable {p : Program} {l : Launch} {e : Env} {R : Room} {s : State} {m : MethodId} {args : Array Value} {below : List Frame} {meth : Method} {c : Code}
variable {dC : Nat → ClassId} {dI : Nat → Nat → Nat} {b : Nat → Nat} {k : Nat → ClassId} {A : Nat → Prop}
def C_X3_readValue_b0 (b : Nat → Nat) (k : Nat → ClassId) (RV : Nat → Nat → (Option Nat → cS → Prop) → Int32 → cS → Prop) (MC MS : Nat) (Q : Option Nat → cS → Prop) (x1 : Int32) (nc : Nat) (ns : Nat) (σ : cS) : Prop :=
 ∀ v4 : Int32, v4 = (σ.1 5) → C_X3_next_w b k (fun r6 t6 => (x1 < (5 : Int32) → (r6 = 64 → ∃ mc154 ms154 : Nat, nc + mc154 ≤ MC ∧ ns + ms154 ≤ MS ∧ C_X3_readAnnotation_w b k RV mc154 ms154 (fun r154 t154 => Q r154 t154) (x1 + (1 : Int32)) t6) ∧ (¬ r6 = 64 → (r6 = 73 → nc + 1 ≤ MC ∧ ns + 3 ≤ MS ∧ ∀ (q88 : Nat) (t88 : cS), t88 = sN t6 (q88, .inr (5, [.int 0, .int 0, .null])) → C_X3_readConstant_w b k (fun r95 t95 => C_X5_init_w b k q88 (fun t102 => Q (some q88) t102) (1 : Int32) r95 (some (b 14)) t95) (1 : Int32) t88) ∧ (¬ r6 = 73 → (r6 = 91 → ∃ mc146 ms146 : Nat, nc + mc146 ≤ MC ∧ ns + ms146 ≤ MS ∧ C_X3_readRow_w b k RV mc146 ms146 (fun r146 t146 => Q r146 t146) (x1 + (1 : Int32)) t6) ∧ (¬ r6 = 91 → (r6 = 99 → nc + 1 ≤ MC ∧ ns + 3 ≤ MS ∧ ∀ (q124 : Nat) (t124 : cS), t124 = sN t6 (q124, .inr (5, [.int 0, .int 0, .null])) → C_X3_readConstant_w b k (fun r131 t131 => C_X5_init_w b k q124 (fun t138 => Q (some q124) t138) (3 : Int32) r131 (some (b 14)) t131) (3 : Int32) t124) ∧ (¬ r6 = 99 → (r6 = 115 → nc + 1 ≤ MC ∧ ns + 3 ≤ MS ∧ ∀ (q106 : Nat) (t106 : cS), t106 = sN t6 (q106, .inr (5, [.int 0, .int 0, .null])) → C_X3_readConstant_w b k (fun r113 t113 => C_X5_init_w b k q106 (fun t120 => Q (some q106) t120) (2 : Int32) r113 (some (b 14)) t113) (2 : Int32) t106) ∧ (¬ r6 = 115 → C_X3_refuse_w b k (fun t161 => nc + 1 ≤ MC ∧ ns + 3 ≤ MS ∧ ∀ (q164 : Nat) (t164 : cS), t164 = sN t161 (q164, .inr (5, [.int 0, .int 0, .null])) → C_X5_init_w b k q164 (fun t174 => Q (some q164) t174) (0 : Int32) (0 : Int32) (some (b 14)) t164) (3 : Int32) v4 t6)))))) ∧ (¬ x1 < (5 : Int32) → C_X3_refuse_w b k (fun t19 => nc + 1 ≤ MC ∧ ns + 3 ≤ MS ∧ ∀ (q22 : Nat) (t22 : cS), t22 = sN t19 (q22, .inr (5, [.int 0, .int 0, .null])) → C_X5_init_w b k q22 (fun t32 => Q (some q22) t32) (0 : Int32) (0 : Int32) (some (b 14)) t22) (7 : Int32) v4 t6)) σ
set_option maxHeartbeats 4000000 in
set_option maxRecDepth 100000 in
theorem cB_X3_readValue_0 {RV : Nat → Nat → (Option Nat → cS → Prop) → Int32 → cS → Prop} {fr lo : Nat} {MC MS : Nat} {Q : Option Nat → cS → Prop} (X : CallFix p m c cX3_readValue 4 s args wsX3_readValue RX3) (hr : meth.sig.returnType = (some (.object "ClassFileIndex$Value"))) (hlk : meth.locks = false) (hR : fr + 4 ≤ R.frames ∧ lo + 91 ≤ R.locals) (hK : cK dC dI k s) (hA : ∀ q, s.heap.size ≤ q → A q) (hRc : R.cells = MC ∧ R.slots = MS) (hRV : ∀ (σ : cS) (sz mc ms : Nat) (x1 : Int32) (Q : Option Nat → cS → Prop), RV mc ms Q x1 σ → Met l yX3_readValue wsX3_readValue { frames := fr, cells := mc, slots := ms, locals := lo } (cPc dC dI b k sz σ [.ref (b 10), .int x1]) (va_Qq Q (cAt dC dI (va_A (cCells b k σ) sz) b k) (va_A (cCells b k σ) sz)) mc ms (va_A (cCells b k σ) sz)) (x1 : Int32) (nc : Nat) (ns : Nat) (σ : cS) (H : Heap) (locs : List Loc) (ls : Array Slot) (hl : lv_has ls 4 [(0, .ref (b 10)), (1, .int x1)]) (hO : cO dC dI b k A s.heap σ H locs) (hc : (nc ≤ MC ∧ ns ≤ MS)) (hw : C_X3_readValue_b0 b k RV MC MS Q x1 nc ns σ) : W p l e R s m args below meth c H locs nc ns (MQ below (va_Qq Q (cAt dC dI A b k) A) args s MC MS A) (F0 m 0 ls []) := by
  unfold C_X3_readValue_b0 at hw
  refine lv_aload_n X.1 X.2.1 dX3_readValue_0 rfl (lv_at hl 0 rfl) ?_
  refine cf_X3_place X fX3_X3_place hK hO dX3_readValue_1 ?_
  refine lv_topi (fun v4 e4 => ?_)
  have hw := hw v4 e4
  refine lv_istore_n (lv' := [(2, .int v4), (0, .ref (b 10)), (1, .int x1)]) X.1 X.2.1 dX3_readValue_4 rfl hl (by decide) rfl (fun ls hl => ?_)
  refine lv_aload_n X.1 X.2.1 dX3_readValue_5 rfl (lv_at hl 1 rfl) ?_
  refine c_calli (rest := []) (As := []) X (cC_X3_next l dC dI b k σ H.size _ hw) (cwV 0 X.2.2.2.2 gX3_X3_next rfl rfl rfl hdX3_next ⟨Nat.le_trans (show 0 + 1 ≤ fr + 4 by omega) hR.1, Nat.le_trans (show 8 + (1 + 11) + (0) ≤ lo + 91 by omega) hR.2⟩) (cRecv_X3 hK hO) hK hA hO rfl hl.1 rfl (Nat.le_of_ble_eq_true rfl) dX3_readValue_6 (by rw [hRc.1]; exact hc.1) (by rw [hRc.2]; exact hc.2) (fun r6 t6 H locs hO hw => ?_)
  refine lv_istore_n (lv' := [(3, .int r6), (2, .int v4), (0, .ref (b 10)), (1, .int x1)]) X.1 X.2.1 dX3_readValue_9 rfl hl (by decide) rfl (fun ls hl => ?_)
  refine lv_iload_n X.1 X.2.1 dX3_readValue_10 rfl (lv_at hl 3 rfl) ?_
  refine lv_iconst (v := 5) X.1 X.2.1 dX3_readValue_11 (by decide) ?_
  refine lv_icmp_lt (tgt := 36) X.1 X.2.1 dX3_readValue_12 rfl (fun hc9 => ?_) (fun hc9 => ?_)
  · have hw := hw.1 hc9
    refine lv_iload_n X.1 X.2.1 dX3_readValue_36 rfl (lv_at hl 0 rfl) ?_
    by_cases h64 : r6 = 64
    · have hw := hw.1 h64
      refine lv_lookup (tgt := 150) (off := 113) X.1 X.2.1 dX3_readValue_37 (by decide) (by rw [h64]; decide) rfl ?_
      refine lv_aload_n X.1 X.2.1 dX3_readValue_150 rfl (lv_at hl 2 rfl) ?_
      refine lv_iload_n X.1 X.2.1 dX3_readValue_151 rfl (lv_at hl 3 rfl) ?_
      refine lv_iconst (v := 1) X.1 X.2.1 dX3_readValue_152 (by decide) ?_
      refine lv_iadd X.1 X.2.1 dX3_readValue_153 ?_
      obtain ⟨mc154, ms154, hc1, hc2, hw⟩ := hw
      have hc : nc + mc154 ≤ MC ∧ ns + ms154 ≤ MS := ⟨hc1, hc2⟩
      refine c_callq (rest := []) (As := [.int (x1 + (1 : Int32))]) X (cC_X3_readAnnotation RV fr lo l dC dI b k hRV t6 H.size mc154 ms154 (x1 + (1 : Int32)) _ hw) (cwV 1 X.2.2.2.2 gX3_X3_readAnnotation rfl rfl rfl hdX3_readAnnotation ⟨Nat.le_trans (show fr + 3 + 1 ≤ fr + 4 by omega) hR.1, Nat.le_trans (show 8 + (3 + 11) + (lo + 69) ≤ lo + 91 by omega) hR.2⟩) (cRecv_X3 hK hO) hK hA hO rfl hl.1 rfl (Nat.le_of_ble_eq_true rfl) dX3_readValue_154 (by rw [hRc.1]; exact hc.1) (by rw [hRc.2]; exact hc.2) (fun r154 t154 H locs hO hw => ?_)
      refine W.widen (k := MC) (n := MS) hc.1 hc.2 ?_
      exact W.aret (v := va_rf r154) X.1 X.2.1 hr (Or.inl ⟨_, rfl⟩) (va_rf_or _) (fun t ht hW => ⟨⟨r154, t154, rfl, hw, cO_end hO hK ht hW⟩, hO.2.2.F ht⟩) hO.2.2.2.2 dX3_readValue_157 hlk
    · have hw := hw.2 h64
      by_cases h73 : r6 = 73
      · have hw := hw.1 h73
        refine lv_lookup (tgt := 88) (off := 51) X.1 X.2.1 dX3_readValue_37 (by decide) (by rw [h73]; decide) rfl ?_
        obtain ⟨hc1, hc2, hw⟩ := hw
        have hc : nc + 1 ≤ MC ∧ ns + 3 ≤ MS := ⟨hc1, hc2⟩
        refine cn_X5 X nX3_X5 hK hO hA (by rw [hRc.1]; exact hc.1) (by rw [hRc.2]; exact hc.2) dX3_readValue_88 (fun q88 H hO => ?_)
        obtain ⟨t88, e88⟩ : ∃ z, z = sN t6 (q88, .inr (5, [.int 0, .int 0, .null])) := ⟨_, rfl⟩
        have hw := hw q88 t88 e88
        rw [← e88] at hO
        refine lv_dup X.1 X.2.1 dX3_readValue_91 rfl ?_
        refine lv_iconst (v := 1) X.1 X.2.1 dX3_readValue_92 (by decide) ?_
        refine lv_aload_n X.1 X.2.1 dX3_readValue_93 rfl (lv_at hl 2 rfl) ?_
        refine lv_iconst (v := 1) X.1 X.2.1 dX3_readValue_94 (by decide) ?_
        refine c_calli (rest := [.int (1 : Int32), .ref q88, .ref q88]) (As := [.int (1 : Int32)]) X (cC_X3_readConstant l dC dI b k t88 H.size (1 : Int32) _ hw) (cwV 1 X.2.2.2.2 gX3_X3_readConstant rfl rfl rfl hdX3_readConstant ⟨Nat.le_trans (show 1 + 1 ≤ fr + 4 by omega) hR.1, Nat.le_trans (show 8 + (4 + 11) + (22) ≤ lo + 91 by omega) hR.2⟩) (cRecv_X3 hK hO) hK hA hO rfl hl.1 rfl (Nat.le_of_ble_eq_true rfl) dX3_readValue_95 (by rw [hRc.1]; exact hc.1) (by rw [hRc.2]; exact hc.2) (fun r95 t95 H locs hO hw => ?_)
        refine lv_aload_n X.1 X.2.1 dX3_readValue_98 rfl (lv_at hl 2 rfl) ?_
        refine cf_X3_noParts X fX3_X3_noParts hK hO dX3_readValue_99 ?_
        refine c_init (rest := [.ref q88]) (As := [.int (1 : Int32), .int r95, va_rf (some (b 14))]) X (cC_X5_init l dC dI b k t95 H.size q88 (1 : Int32) r95 (some (b 14)) _ hw) (cwI 3 X.2.2.2.2 (gG kX5_init rfl) rfl rfl rfl (X.2.2.2.2 _ (List.mem_cons_of_mem _ iX5)) (X.2.2.2.2 _ (List.mem_cons_of_mem _ gX3_X5_init)) (X.2.2.2.2 _ (List.mem_cons_of_mem _ uX5_init)) rfl hdX5_init ⟨Nat.le_trans (show 1 + 1 ≤ fr + 4 by omega) hR.1, Nat.le_trans (show 8 + (4 + 11) + (20) ≤ lo + 91 by omega) hR.2⟩) hK hA hO rfl hl.1 rfl (Nat.le_of_ble_eq_true rfl) dX3_readValue_102 (by rw [hRc.1]; exact hc.1) (by rw [hRc.2]; exact hc.2) (fun t102 H locs hO hw => ?_)
        refine W.widen (k := MC) (n := MS) hc.1 hc.2 ?_
        exact W.aret (v := va_rf (some q88)) X.1 X.2.1 hr (Or.inl ⟨_, rfl⟩) (va_rf_or _) (fun t ht hW => ⟨⟨(some q88), t102, rfl, hw, cO_end hO hK ht hW⟩, hO.2.2.F ht⟩) hO.2.2.2.2 dX3_readValue_105 hlk
      · have hw := hw.2 h73
        by_cases h91 : r6 = 91
        · have hw := hw.1 h91
          refine lv_lookup (tgt := 142) (off := 105) X.1 X.2.1 dX3_readValue_37 (by decide) (by rw [h91]; decide) rfl ?_
          refine lv_aload_n X.1 X.2.1 dX3_readValue_142 rfl (lv_at hl 2 rfl) ?_
          refine lv_iload_n X.1 X.2.1 dX3_readValue_143 rfl (lv_at hl 3 rfl) ?_
          refine lv_iconst (v := 1) X.1 X.2.1 dX3_readValue_144 (by decide) ?_
          refine lv_iadd X.1 X.2.1 dX3_readValue_145 ?_
          obtain ⟨mc146, ms146, hc1, hc2, hw⟩ := hw
          have hc : nc + mc146 ≤ MC ∧ ns + ms146 ≤ MS := ⟨hc1, hc2⟩
          refine c_callq (rest := []) (As := [.int (x1 + (1 : Int32))]) X (cC_X3_readRow RV fr lo l dC dI b k hRV t6 H.size mc146 ms146 (x1 + (1 : Int32)) _ hw) (cwV 1 X.2.2.2.2 gX3_X3_readRow rfl rfl rfl hdX3_readRow ⟨Nat.le_trans (show fr + 3 + 1 ≤ fr + 4 by omega) hR.1, Nat.le_trans (show 8 + (3 + 11) + (lo + 69) ≤ lo + 91 by omega) hR.2⟩) (cRecv_X3 hK hO) hK hA hO rfl hl.1 rfl (Nat.le_of_ble_eq_true rfl) dX3_readValue_146 (by rw [hRc.1]; exact hc.1) (by rw [hRc.2]; exact hc.2) (fun r146 t146 H locs hO hw => ?_)
          refine W.widen (k := MC) (n := MS) hc.1 hc.2 ?_
          exact W.aret (v := va_rf r146) X.1 X.2.1 hr (Or.inl ⟨_, rfl⟩) (va_rf_or _) (fun t ht hW => ⟨⟨r146, t146, rfl, hw, cO_end hO hK ht hW⟩, hO.2.2.F ht⟩) hO.2.2.2.2 dX3_readValue_149 hlk
        · have hw := hw.2 h91
          by_cases h99 : r6 = 99
          · have hw := hw.1 h99
            refine lv_lookup (tgt := 124) (off := 87) X.1 X.2.1 dX3_readValue_37 (by decide) (by rw [h99]; decide) rfl ?_
            obtain ⟨hc1, hc2, hw⟩ := hw
            have hc : nc + 1 ≤ MC ∧ ns + 3 ≤ MS := ⟨hc1, hc2⟩
            refine cn_X5 X nX3_X5 hK hO hA (by rw [hRc.1]; exact hc.1) (by rw [hRc.2]; exact hc.2) dX3_readValue_124 (fun q124 H hO => ?_)
            obtain ⟨t124, e124⟩ : ∃ z, z = sN t6 (q124, .inr (5, [.int 0, .int 0, .null])) := ⟨_, rfl⟩
            have hw := hw q124 t124 e124
            rw [← e124] at hO
            refine lv_dup X.1 X.2.1 dX3_readValue_127 rfl ?_
            refine lv_iconst (v := 3) X.1 X.2.1 dX3_readValue_128 (by decide) ?_
            refine lv_aload_n X.1 X.2.1 dX3_readValue_129 rfl (lv_at hl 2 rfl) ?_
            refine lv_iconst (v := 3) X.1 X.2.1 dX3_readValue_130 (by decide) ?_
            refine c_calli (rest := [.int (3 : Int32), .ref q124, .ref q124]) (As := [.int (3 : Int32)]) X (cC_X3_readConstant l dC dI b k t124 H.size (3 : Int32) _ hw) (cwV 1 X.2.2.2.2 gX3_X3_readConstant rfl rfl rfl hdX3_readConstant ⟨Nat.le_trans (show 1 + 1 ≤ fr + 4 by omega) hR.1, Nat.le_trans (show 8 + (4 + 11) + (22) ≤ lo + 91 by omega) hR.2⟩) (cRecv_X3 hK hO) hK hA hO rfl hl.1 rfl (Nat.le_of_ble_eq_true rfl) dX3_readValue_131 (by rw [hRc.1]; exact hc.1) (by rw [hRc.2]; exact hc.2) (fun r131 t131 H locs hO hw => ?_)
            refine lv_aload_n X.1 X.2.1 dX3_readValue_134 rfl (lv_at hl 2 rfl) ?_
            refine cf_X3_noParts X fX3_X3_noParts hK hO dX3_readValue_135 ?_
            refine c_init (rest := [.ref q124]) (As := [.int (3 : Int32), .int r131, va_rf (some (b 14))]) X (cC_X5_init l dC dI b k t131 H.size q124 (3 : Int32) r131 (some (b 14)) _ hw) (cwI 3 X.2.2.2.2 (gG kX5_init rfl) rfl rfl rfl (X.2.2.2.2 _ (List.mem_cons_of_mem _ iX5)) (X.2.2.2.2 _ (List.mem_cons_of_mem _ gX3_X5_init)) (X.2.2.2.2 _ (List.mem_cons_of_mem _ uX5_init)) rfl hdX5_init ⟨Nat.le_trans (show 1 + 1 ≤ fr + 4 by omega) hR.1, Nat.le_trans (show 8 + (4 + 11) + (20) ≤ lo + 91 by omega) hR.2⟩) hK hA hO rfl hl.1 rfl (Nat.le_of_ble_eq_true rfl) dX3_readValue_138 (by rw [hRc.1]; exact hc.1) (by rw [hRc.2]; exact hc.2) (fun t138 H locs hO hw => ?_)
            refine W.widen (k := MC) (n := MS) hc.1 hc.2 ?_
            exact W.aret (v := va_rf (some q124)) X.1 X.2.1 hr (Or.inl ⟨_, rfl⟩) (va_rf_or _) (fun t ht hW => ⟨⟨(some q124), t138, rfl, hw, cO_end hO hK ht hW⟩, hO.2.2.F ht⟩) hO.2.2.2.2 dX3_readValue_141 hlk
          · have hw := hw.2 h99
            by_cases h115 : r6 = 115
            · have hw := hw.1 h115
              refine lv_lookup (tgt := 106) (off := 69) X.1 X.2.1 dX3_readValue_37 (by decide) (by rw [h115]; decide) rfl ?_
              obtain ⟨hc1, hc2, hw⟩ := hw
              have hc : nc + 1 ≤ MC ∧ ns + 3 ≤ MS := ⟨hc1, hc2⟩
              refine cn_X5 X nX3_X5 hK hO hA (by rw [hRc.1]; exact hc.1) (by rw [hRc.2]; exact hc.2) dX3_readValue_106 (fun q106 H hO => ?_)
              obtain ⟨t106, e106⟩ : ∃ z, z = sN t6 (q106, .inr (5, [.int 0, .int 0, .null])) := ⟨_, rfl⟩
              have hw := hw q106 t106 e106
              rw [← e106] at hO
              refine lv_dup X.1 X.2.1 dX3_readValue_109 rfl ?_
              refine lv_iconst (v := 2) X.1 X.2.1 dX3_readValue_110 (by decide) ?_
              refine lv_aload_n X.1 X.2.1 dX3_readValue_111 rfl (lv_at hl 2 rfl) ?_
              refine lv_iconst (v := 2) X.1 X.2.1 dX3_readValue_112 (by decide) ?_
              refine c_calli (rest := [.int (2 : Int32), .ref q106, .ref q106]) (As := [.int (2 : Int32)]) X (cC_X3_readConstant l dC dI b k t106 H.size (2 : Int32) _ hw) (cwV 1 X.2.2.2.2 gX3_X3_readConstant rfl rfl rfl hdX3_readConstant ⟨Nat.le_trans (show 1 + 1 ≤ fr + 4 by omega) hR.1, Nat.le_trans (show 8 + (4 + 11) + (22) ≤ lo + 91 by omega) hR.2⟩) (cRecv_X3 hK hO) hK hA hO rfl hl.1 rfl (Nat.le_of_ble_eq_true rfl) dX3_readValue_113 (by rw [hRc.1]; exact hc.1) (by rw [hRc.2]; exact hc.2) (fun r113 t113 H locs hO hw => ?_)
              refine lv_aload_n X.1 X.2.1 dX3_readValue_116 rfl (lv_at hl 2 rfl) ?_
              refine cf_X3_noParts X fX3_X3_noParts hK hO dX3_readValue_117 ?_
              refine c_init (rest := [.ref q106]) (As := [.int (2 : Int32), .int r113, va_rf (some (b 14))]) X (cC_X5_init l dC dI b k t113 H.size q106 (2 : Int32) r113 (some (b 14)) _ hw) (cwI 3 X.2.2.2.2 (gG kX5_init rfl) rfl rfl rfl (X.2.2.2.2 _ (List.mem_cons_of_mem _ iX5)) (X.2.2.2.2 _ (List.mem_cons_of_mem _ gX3_X5_init)) (X.2.2.2.2 _ (List.mem_cons_of_mem _ uX5_init)) rfl hdX5_init ⟨Nat.le_trans (show 1 + 1 ≤ fr + 4 by omega) hR.1, Nat.le_trans (show 8 + (4 + 11) + (20) ≤ lo + 91 by omega) hR.2⟩) hK hA hO rfl hl.1 rfl (Nat.le_of_ble_eq_true rfl) dX3_readValue_120 (by rw [hRc.1]; exact hc.1) (by rw [hRc.2]; exact hc.2) (fun t120 H locs hO hw => ?_)
              refine W.widen (k := MC) (n := MS) hc.1 hc.2 ?_
              exact W.aret (v := va_rf (some q106)) X.1 X.2.1 hr (Or.inl ⟨_, rfl⟩) (va_rf_or _) (fun t ht hW => ⟨⟨(some q106), t120, rfl, hw, cO_end hO hK ht hW⟩, hO.2.2.F ht⟩) hO.2.2.2.2 dX3_readValue_123 hlk
            · have hw := hw.2 h115
              refine lv_lookup (tgt := 158) (off := 121) X.1 X.2.1 dX3_readValue_37 (by decide) (by show Op.lookupswitch.offset [(64, 113), (73, 51), (91, 105), (99, 87), (115, 69)] 121 _ = _; rw [lv_osw h64 (by decide), lv_osw h73 (by decide), lv_osw h91 (by decide), lv_osw h99 (by decide), lv_osw h115 (by decide)]; rfl) rfl ?_
              refine lv_aload_n X.1 X.2.1 dX3_readValue_158 rfl (lv_at hl 2 rfl) ?_
              refine lv_iconst (v := 3) X.1 X.2.1 dX3_readValue_159 (by decide) ?_
              refine lv_iload_n X.1 X.2.1 dX3_readValue_160 rfl (lv_at hl 1 rfl) ?_
              refine c_callv (rest := []) (As := [.int (3 : Int32), .int v4]) X (cC_X3_refuse l dC dI b k t6 H.size (3 : Int32) v4 _ hw) (cwV 2 X.2.2.2.2 gX3_X3_refuse rfl rfl rfl hdX3_refuse ⟨Nat.le_trans (show 0 + 1 ≤ fr + 4 by omega) hR.1, Nat.le_trans (show 8 + (3 + 11) + (0) ≤ lo + 91 by omega) hR.2⟩) (cRecv_X3 hK hO) hK hA hO rfl hl.1 rfl (Nat.le_of_ble_eq_true rfl) dX3_readValue_161 (by rw [hRc.1]; exact hc.1) (by rw [hRc.2]; exact hc.2) (fun t161 H locs hO hw => ?_)
              obtain ⟨hc1, hc2, hw⟩ := hw
              have hc : nc + 1 ≤ MC ∧ ns + 3 ≤ MS := ⟨hc1, hc2⟩
              refine cn_X5 X nX3_X5 hK hO hA (by rw [hRc.1]; exact hc.1) (by rw [hRc.2]; exact hc.2) dX3_readValue_164 (fun q164 H hO => ?_)
              obtain ⟨t164, e164⟩ : ∃ z, z = sN t161 (q164, .inr (5, [.int 0, .int 0, .null])) := ⟨_, rfl⟩
              have hw := hw q164 t164 e164
              rw [← e164] at hO
              refine lv_dup X.1 X.2.1 dX3_readValue_167 rfl ?_
              refine lv_iconst (v := 0) X.1 X.2.1 dX3_readValue_168 (by decide) ?_
              refine lv_iconst (v := 0) X.1 X.2.1 dX3_readValue_169 (by decide) ?_
              refine lv_aload_n X.1 X.2.1 dX3_readValue_170 rfl (lv_at hl 2 rfl) ?_
              refine cf_X3_noParts X fX3_X3_noParts hK hO dX3_readValue_171 ?_
              refine c_init (rest := [.ref q164]) (As := [.int (0 : Int32), .int (0 : Int32), va_rf (some (b 14))]) X (cC_X5_init l dC dI b k t164 H.size q164 (0 : Int32) (0 : Int32) (some (b 14)) _ hw) (cwI 3 X.2.2.2.2 (gG kX5_init rfl) rfl rfl rfl (X.2.2.2.2 _ (List.mem_cons_of_mem _ iX5)) (X.2.2.2.2 _ (List.mem_cons_of_mem _ gX3_X5_init)) (X.2.2.2.2 _ (List.mem_cons_of_mem _ uX5_init)) rfl hdX5_init ⟨Nat.le_trans (show 1 + 1 ≤ fr + 4 by omega) hR.1, Nat.le_trans (show 8 + (4 + 11) + (20) ≤ lo + 91 by omega) hR.2⟩) hK hA hO rfl hl.1 rfl (Nat.le_of_ble_eq_true rfl) dX3_readValue_174 (by rw [hRc.1]; exact hc.1) (by rw [hRc.2]; exact hc.2) (fun t174 H locs hO hw => ?_)
              refine W.widen (k := MC) (n := MS) hc.1 hc.2 ?_
              exact W.aret (v := va_rf (some q164)) X.1 X.2.1 hr (Or.inl ⟨_, rfl⟩) (va_rf_or _) (fun t ht hW => ⟨⟨(some q164), t174, rfl, hw, cO_end hO hK ht hW⟩, hO.2.2.F ht⟩) hO.2.2.2.2 dX3_readValue_177 hlk
  · have hw := hw.2 hc9
    refine lv_aload_n X.1 X.2.1 dX3_readValue_15 rfl (lv_at hl 2 rfl) ?_
    refine lv_bipush (v := 7) X.1 X.2.1 dX3_readValue_16 (by decide) ?_
    refine lv_iload_n X.1 X.2.1 dX3_readValue_18 rfl (lv_at hl 1 rfl) ?_
    refine c_callv (rest := []) (As := [.int (7 : Int32), .int v4]) X (cC_X3_refuse l dC dI b k t6 H.size (7 : Int32) v4 _ hw) (cwV 2 X.2.2.2.2 gX3_X3_refuse rfl rfl rfl hdX3_refuse ⟨Nat.le_trans (show 0 + 1 ≤ fr + 4 by omega) hR.1, Nat.le_trans (show 8 + (3 + 11) + (0) ≤ lo + 91 by omega) hR.2⟩) (cRecv_X3 hK hO) hK hA hO rfl hl.1 rfl (Nat.le_of_ble_eq_true rfl) dX3_readValue_19 (by rw [hRc.1]; exact hc.1) (by rw [hRc.2]; exact hc.2) (fun t19 H locs hO hw => ?_)
    obtain ⟨hc1, hc2, hw⟩ := hw
    have hc : nc + 1 ≤ MC ∧ ns + 3 ≤ MS := ⟨hc1, hc2⟩
    refine cn_X5 X nX3_X5 hK hO hA (by rw [hRc.1]; exact hc.1) (by rw [hRc.2]; exact hc.2) dX3_readValue_22 (fun q22 H hO => ?_)
    obtain ⟨t22, e22⟩ : ∃ z, z = sN t19 (q22, .inr (5, [.int 0, .int 0, .null])) := ⟨_, rfl⟩
    have hw := hw q22 t22 e22
    rw [← e22] at hO
    refine lv_dup X.1 X.2.1 dX3_readValue_25 rfl ?_
    refine lv_iconst (v := 0) X.1 X.2.1 dX3_readValue_26 (by decide) ?_
    refine lv_iconst (v := 0) X.1 X.2.1 dX3_readValue_27 (by decide) ?_
    refine lv_aload_n X.1 X.2.1 dX3_readValue_28 rfl (lv_at hl 2 rfl) ?_
    refine cf_X3_noParts X fX3_X3_noParts hK hO dX3_readValue_29 ?_
    refine c_init (rest := [.ref q22]) (As := [.int (0 : Int32), .int (0 : Int32), va_rf (some (b 14))]) X (cC_X5_init l dC dI b k t22 H.size q22 (0 : Int32) (0 : Int32) (some (b 14)) _ hw) (cwI 3 X.2.2.2.2 (gG kX5_init rfl) rfl rfl rfl (X.2.2.2.2 _ (List.mem_cons_of_mem _ iX5)) (X.2.2.2.2 _ (List.mem_cons_of_mem _ gX3_X5_init)) (X.2.2.2.2 _ (List.mem_cons_of_mem _ uX5_init)) rfl hdX5_init ⟨Nat.le_trans (show 1 + 1 ≤ fr + 4 by omega) hR.1, Nat.le_trans (show 8 + (4 + 11) + (20) ≤ lo + 91 by omega) hR.2⟩) hK hA hO rfl hl.1 rfl (Nat.le_of_ble_eq_true rfl) dX3_readValue_32 (by rw [hRc.1]; exact hc.1) (by rw [hRc.2]; exact hc.2) (fun t32 H locs hO hw => ?_)
    refine W.widen (k := MC) (n := MS) hc.1 hc.2 ?_
    exact W.aret (v := va_rf (some q22)) X.1 X.2.1 hr (Or.inl ⟨_, rfl⟩) (va_rf_or _) (fun t ht hW => ⟨⟨(some q22), t32, rfl, hw, cO_end hO hK ht hW⟩, hO.2.2.F ht⟩) hO.2.2.2.2 dX3_readValue_35 hlk
def C_X3_readValue_w (b : Nat → Nat) (k : Nat → ClassId) (RV : Nat → Nat → (Option Nat → cS → Prop) → Int32 → cS → Prop) (MC MS : Nat) (Q : Option Nat → cS → Prop) (x1 : Int32) (σ : cS) : Prop := C_X3_readValue_b0 b k RV MC MS Q x1 0 0 σ
abbrev rmX3_readValue (fr lo : Nat) (MC MS : Nat) : Room := { frames := fr + 4, cells := MC, slots := MS, locals := lo + 91 }
set_option maxHeartbeats 4000000 in
set_option maxRecDepth 100000 in
theorem cC_X3_readValue (RV : Nat → Nat → (Option Nat → cS → Prop) → Int32 → cS → Prop) (fr lo : Nat) (l : Launch) (dC : Nat → ClassId) (dI : Nat → Nat → Nat) (b : Nat → Nat) (k : Nat → ClassId) (hRV : ∀ (σ : cS) (sz mc ms : Nat) (x1 : Int32) (Q : Option Nat → cS → Prop), RV mc ms Q x1 σ → Met l yX3_readValue wsX3_readValue { frames := fr, cells := mc, slots := ms, locals := lo } (cPc dC dI b k sz σ [.ref (b 10), .int x1]) (va_Qq Q (cAt dC dI (va_A (cCells b k σ) sz) b k) (va_A (cCells b k σ) sz)) mc ms (va_A (cCells b k σ) sz)) (σ : cS) (sz : Nat) (MC MS : Nat) (x1 : Int32) (Q : Option Nat → cS → Prop) (hw : C_X3_readValue_w b k RV MC MS Q x1 σ) : Met l yX3_readValue wsX3_readValue (rmX3_readValue fr lo MC MS) (cPc dC dI b k sz σ [.ref (b 10), .int x1]) (va_Qq Q (cAt dC dI (va_A (cCells b k σ) sz) b k) (va_A (cCells b k σ) sz)) MC MS (va_A (cCells b k σ) sz) := by
  refine Met.ofW (cc := cX3_readValue) (maxL := 4) (ret := (some (.object "ClassFileIndex$Value"))) (by decide) rfl ?_
  intro p e s m args below meth c s₁ B hml hv
  obtain ⟨hargs, hsz, hP, hK, hD0⟩ := hv
  have hts := atoms_spec (ws := wsX3_readValue) B.pre
  have hown : s.vm.findClass RX3 = some m.cls := findClass_of_methodNamed B.named
  subst hsz
  subst hargs
  have hD := hD0.self (sz := s.heap.size)
  generalize hAe : va_A (cCells b k σ) s.heap.size = A at hD ⊢
  have hA : ∀ q : Nat, s.heap.size ≤ q → A q := fun q h => by rw [← hAe]; exact Or.inr h
  have hl := lv_entry ([.ref (b 10), .int x1]) (n := 4) (Nat.le_of_ble_eq_true rfl)
  rw [lg_entry_eq]
  generalize (lg_sl ([.ref (b 10), .int x1]) ++ List.replicate (4 - (lg_sl ([.ref (b 10), .int x1])).length) Slot.unset).toArray = ls at hl ⊢
  have hl : lv_has ls 4 [(0, .ref (b 10)), (1, .int x1)] := hl
  unfold C_X3_readValue_w at hw
  exact cB_X3_readValue_0 ⟨B.exec, B.bytes, hml, hown, hts⟩ B.returns B.notSynchronized ⟨Nat.le_refl _, Nat.le_refl _⟩ hK hA ⟨rfl, rfl⟩ hRV x1 0 0 σ s.heap [] ls (lv_sub hl [0, 1] rfl) ⟨hP, hD, va_S.rf⟩ ⟨Nat.zero_le _, Nat.zero_le _⟩ hw
/-- reading a value, at most n calls deep -/
def rvN (b : Nat → Nat) (k : Nat → ClassId) : Nat → Nat → Nat → (Option Nat → cS → Prop) → Int32 → cS → Prop
  | 0 => fun _ _ _ _ _ => False
  | n + 1 => fun MC MS Q x σ => C_X3_readValue_w b k (rvN b k n) MC MS Q x σ
theorem cC_rv (l : Launch) (dC : Nat → ClassId) (dI : Nat → Nat → Nat) (b : Nat → Nat) (k : Nat → ClassId) : ∀ (n : Nat) (σ : cS) (sz mc ms : Nat) (x1 : Int32) (Q : Option Nat → cS → Prop), rvN b k n mc ms Q x1 σ → Met l yX3_readValue wsX3_readValue { frames := 4 * n, cells := mc, slots := ms, locals := 91 * n } (cPc dC dI b k sz σ [.ref (b 10), .int x1]) (va_Qq Q (cAt dC dI (va_A (cCells b k σ) sz) b k) (va_A (cCells b k σ) sz)) mc ms (va_A (cCells b k σ) sz) := by
  intro n
  induction n with
  | zero => intro σ sz mc ms x1 Q hw; exact False.elim hw
  | succ n ih => intro σ sz mc ms x1 Q hw; exact cC_X3_readValue (rvN b k n) (4 * n) (91 * n) l dC dI b k ih σ sz mc ms x1 Q hw
def C_X3_readAnnotations_b11_s (b : Nat → Nat) (k : Nat → ClassId) (MC MS : Nat) (Q : Option Nat → cS → Prop) (K11 : Option Nat → Int32 → Nat → Nat → cS → Prop) (x1 : Option Nat) (x2 : Int32) (nc : Nat) (ns : Nat) (σ : cS) : Prop :=
 ∃ (n13 : Nat) (f13 : Nat → Option Nat), pQ σ.2.2.2.2 x1 (k 3) n13 f13 ∧ ((Int32.ofNat n13) ≤ x2 → Q x1 σ) ∧ (¬ (Int32.ofNat n13) ≤ x2 → ∃ mc21 ms21 : Nat, nc + mc21 ≤ MC ∧ ns + ms21 ≤ MS ∧ C_X3_readAnnotation_w b k (rvN b k 5) mc21 ms21 (fun r21 t21 => ∃ (a24 j24 n24 : Nat) (f24 : Nat → Option Nat), x1 = some a24 ∧ t21.2.2.2.2[j24]? = some (a24, .inl (k 3, n24, .inr (.inr (.inr (.inr f24))))) ∧ vp_in x2 n24 ∧ pO t21.2.2.2.2 r21 5 ∧ ∀ t24 : cS, t24 = sP t21 j24 (a24, .inl (k 3, n24, .inr (.inr (.inr (.inr (va_up f24 x2.toNatClampNeg r21)))))) → ∀ v25 : Int32, v25 = x2 + (1 : Int32) → K11 x1 v25 (nc + mc21) (ns + ms21) t24) (1 : Int32) σ)
def C_X3_readAnnotations_b11_f (b : Nat → Nat) (k : Nat → ClassId) (MC MS : Nat) (Q : Option Nat → cS → Prop) : (Option Nat × Int32 × Nat × Nat × cS → Prop) → Option Nat × Int32 × Nat × Nat × cS → Prop :=
 fun K z => C_X3_readAnnotations_b11_s b k MC MS Q (fun x1 x2 nc ns σ => K (x1, x2, nc, ns, σ)) z.1 z.2.1 z.2.2.1 z.2.2.2.1 z.2.2.2.2
def C_X3_readAnnotations_b11 (b : Nat → Nat) (k : Nat → ClassId) (MC MS : Nat) (Q : Option Nat → cS → Prop) (x1 : Option Nat) (x2 : Int32) (nc : Nat) (ns : Nat) (σ : cS) : Prop := ∃ n, fx (C_X3_readAnnotations_b11_f b k MC MS Q ) n (x1, x2, nc, ns, σ)
set_option maxHeartbeats 4000000 in
set_option maxRecDepth 100000 in
theorem cB_X3_readAnnotations_11 {MC MS : Nat} {Q : Option Nat → cS → Prop} (X : CallFix p m c cX3_readAnnotations 3 s args wsX3_readAnnotations RX3) (hr : meth.sig.returnType = (some (.array (.object "ClassFileIndex$Value")))) (hlk : meth.locks = false) (hR : 24 ≤ R.frames ∧ 546 ≤ R.locals) (hK : cK dC dI k s) (hA : ∀ q, s.heap.size ≤ q → A q) (hRc : R.cells = MC ∧ R.slots = MS) : ∀ (n : Nat) (x1 : Option Nat) (x2 : Int32) (nc : Nat) (ns : Nat) (σ : cS) (H : Heap) (locs : List Loc) (ls : Array Slot), lv_has ls 3 [(0, .ref (b 10)), (1, va_rf x1), (2, .int x2)] → cO dC dI b k A s.heap σ H locs → (nc ≤ MC ∧ ns ≤ MS) → fx (C_X3_readAnnotations_b11_f b k MC MS Q ) n (x1, x2, nc, ns, σ) → W p l e R s m args below meth c H locs nc ns (MQ below (va_Qq Q (cAt dC dI A b k) A) args s MC MS A) (F0 m 11 ls []) := by
  intro n
  induction n with
  | zero => intro x1 x2 nc ns σ H locs ls hl hO hc hw; exact False.elim hw
  | succ n k11 =>
    intro x1 x2 nc ns σ H locs ls hl hO hc hw
    have hw : C_X3_readAnnotations_b11_s b k MC MS Q (fun x1 x2 nc ns σ => fx (C_X3_readAnnotations_b11_f b k MC MS Q ) n (x1, x2, nc, ns, σ)) x1 x2 nc ns σ := hw
    unfold C_X3_readAnnotations_b11_s at hw
    refine lv_iload_n X.1 X.2.1 dX3_readAnnotations_11 rfl (lv_at hl 2 rfl) ?_
    refine lv_aload_nO X.1 X.2.1 dX3_readAnnotations_12 rfl (lv_at hl 1 rfl) ?_
    obtain ⟨n13, f13, g13, hw⟩ := hw
    refine clenQ X.1 X.2.1 hK hO g13 dX3_readAnnotations_13 ?_
    refine lv_icmp_ge (tgt := 31) X.1 X.2.1 dX3_readAnnotations_14 rfl (fun hc9 => ?_) (fun hc9 => ?_)
    · have hw := hw.1 hc9
      refine lv_aload_nO X.1 X.2.1 dX3_readAnnotations_31 rfl (lv_at hl 1 rfl) ?_
      refine W.widen (k := MC) (n := MS) hc.1 hc.2 ?_
      exact W.aret (v := va_rf x1) X.1 X.2.1 hr (Or.inr ⟨_, rfl⟩) (va_rf_or _) (fun t ht hW => ⟨⟨x1, σ, rfl, hw, cO_end hO hK ht hW⟩, hO.2.2.F ht⟩) hO.2.2.2.2 dX3_readAnnotations_32 hlk
    · have hw := hw.2 hc9
      refine lv_aload_nO X.1 X.2.1 dX3_readAnnotations_17 rfl (lv_at hl 1 rfl) ?_
      refine lv_iload_n X.1 X.2.1 dX3_readAnnotations_18 rfl (lv_at hl 2 rfl) ?_
      refine lv_aload_n X.1 X.2.1 dX3_readAnnotations_19 rfl (lv_at hl 0 rfl) ?_
      refine lv_iconst (v := 1) X.1 X.2.1 dX3_readAnnotations_20 (by decide) ?_
      obtain ⟨mc21, ms21, hc1, hc2, hw⟩ := hw
      have hc : nc + mc21 ≤ MC ∧ ns + ms21 ≤ MS := ⟨hc1, hc2⟩
      refine c_callq (rest := [.int x2, va_rf x1]) (As := [.int (1 : Int32)]) X (cC_X3_readAnnotation (rvN b k 5) (4 * 5) (91 * 5) l dC dI b k (cC_rv l dC dI b k 5) σ H.size mc21 ms21 (1 : Int32) _ hw) (cwV 1 X.2.2.2.2 gX3_X3_readAnnotation rfl rfl rfl hdX3_readAnnotation ⟨Nat.le_trans (show 23 + 1 ≤ 24 by decide) hR.1, Nat.le_trans (show 8 + (3 + 11) + 524 ≤ 546 by decide) hR.2⟩) (cRecv_X3 hK hO) hK hA hO rfl hl.1 rfl (by cases x1 <;> exact Nat.le_of_ble_eq_true rfl) dX3_readAnnotations_21 (by rw [hRc.1]; exact hc.1) (by rw [hRc.2]; exact hc.2) (fun r21 t21 H locs hO hw => ?_)
      obtain ⟨a24, j24, n24, f24, g24, q24, k24, z24, hw⟩ := hw
      refine caastore X.1 X.2.1 hK hO g24 q24 k24 z24 dX3_readAnnotations_24 (fun H locs hO => ?_)
      obtain ⟨t24, e24⟩ : ∃ z, z = sP t21 j24 (a24, .inl (k 3, n24, .inr (.inr (.inr (.inr (va_up f24 x2.toNatClampNeg r21)))))) := ⟨_, rfl⟩
      have hw := hw t24 e24
      rw [← e24] at hO
      obtain ⟨v25, e25⟩ : ∃ z, z = x2 + (1 : Int32) := ⟨_, rfl⟩
      have hw := hw v25 e25
      refine lv_iinc (lv' := [(2, .int v25), (0, .ref (b 10)), (1, va_rf x1)]) (k := 2) (v := v25) X.1 X.2.1 dX3_readAnnotations_25 hl rfl (by rw [e25]; rfl) (by decide) (by cases x1 <;> rfl) (fun ls hl => ?_)
      refine lv_goto (tgt := 11) X.1 X.2.1 dX3_readAnnotations_28 rfl ?_
      exact k11 x1 v25 (nc + mc21) (ns + ms21) t24 H locs ls (lv_sub hl [1, 2, 0] rfl) hO hc hw
def C_X3_readAnnotations_b0 (b : Nat → Nat) (k : Nat → ClassId) (MC MS : Nat) (Q : Option Nat → cS → Prop) (nc : Nat) (ns : Nat) (σ : cS) : Prop :=
 C_X3_readAtMost_w b k (fun r2 t2 => ¬ r2 < 0 ∧ r2.toNatClampNeg ≤ 1000 ∧ nc + 1 ≤ MC ∧ ns + r2.toNatClampNeg ≤ MS ∧ ∀ (q5 : Nat) (t5 : cS), t5 = sN t2 (q5, .inl (k 3, r2.toNatClampNeg, .inr (.inr (.inr (.inr (fun _ => none)))))) → C_X3_readAnnotations_b11 b k MC MS Q (some q5) (0 : Int32) (nc + 1) (ns + r2.toNatClampNeg) t5) (4 : Int32) σ
set_option maxHeartbeats 4000000 in
set_option maxRecDepth 100000 in
theorem cB_X3_readAnnotations_0 {MC MS : Nat} {Q : Option Nat → cS → Prop} (X : CallFix p m c cX3_readAnnotations 3 s args wsX3_readAnnotations RX3) (hr : meth.sig.returnType = (some (.array (.object "ClassFileIndex$Value")))) (hlk : meth.locks = false) (hR : 24 ≤ R.frames ∧ 546 ≤ R.locals) (hK : cK dC dI k s) (hA : ∀ q, s.heap.size ≤ q → A q) (hRc : R.cells = MC ∧ R.slots = MS) (nc : Nat) (ns : Nat) (σ : cS) (H : Heap) (locs : List Loc) (ls : Array Slot) (hl : lv_has ls 3 [(0, .ref (b 10))]) (hO : cO dC dI b k A s.heap σ H locs) (hc : (nc ≤ MC ∧ ns ≤ MS)) (hw : C_X3_readAnnotations_b0 b k MC MS Q nc ns σ) : W p l e R s m args below meth c H locs nc ns (MQ below (va_Qq Q (cAt dC dI A b k) A) args s MC MS A) (F0 m 0 ls []) := by
  unfold C_X3_readAnnotations_b0 at hw
  refine lv_aload_n X.1 X.2.1 dX3_readAnnotations_0 rfl (lv_at hl 0 rfl) ?_
  refine lv_iconst (v := 4) X.1 X.2.1 dX3_readAnnotations_1 (by decide) ?_
  refine c_calli (rest := []) (As := [.int (4 : Int32)]) X (cC_X3_readAtMost l dC dI b k σ H.size (4 : Int32) _ hw) (cwV 1 X.2.2.2.2 gX3_X3_readAtMost rfl rfl rfl hdX3_readAtMost ⟨Nat.le_trans (show 1 + 1 ≤ 24 by decide) hR.1, Nat.le_trans (show 8 + (4 + 11) + 22 ≤ 546 by decide) hR.2⟩) (cRecv_X3 hK hO) hK hA hO rfl hl.1 rfl (Nat.le_of_ble_eq_true rfl) dX3_readAnnotations_2 (by rw [hRc.1]; exact hc.1) (by rw [hRc.2]; exact hc.2) (fun r2 t2 H locs hO hw => ?_)
  obtain ⟨g5, k5, hc1, hc2, hw⟩ := hw
  have hc : nc + 1 ≤ MC ∧ ns + r2.toNatClampNeg ≤ MS := ⟨hc1, hc2⟩
  refine cnewq X nX3_X5 hK hO hA g5 k5 (by rw [hRc.1]; exact hc.1) (by rw [hRc.2]; exact hc.2) dX3_readAnnotations_5 (fun q5 H hO => ?_)
  obtain ⟨t5, e5⟩ : ∃ z, z = sN t2 (q5, .inl (k 3, r2.toNatClampNeg, .inr (.inr (.inr (.inr (fun _ => none)))))) := ⟨_, rfl⟩
  have hw := hw q5 t5 e5
  rw [← e5] at hO
  refine lv_astore_n (lv' := [(1, .ref q5), (0, .ref (b 10))]) X.1 X.2.1 dX3_readAnnotations_8 rfl hl (by decide) rfl (fun ls hl => ?_)
  refine lv_iconst (v := 0) X.1 X.2.1 dX3_readAnnotations_9 (by decide) ?_
  refine lv_istore_n (lv' := [(2, .int (0 : Int32)), (1, .ref q5), (0, .ref (b 10))]) X.1 X.2.1 dX3_readAnnotations_10 rfl hl (by decide) rfl (fun ls hl => ?_)
  obtain ⟨n, hw⟩ := hw
  exact cB_X3_readAnnotations_11 X hr hlk hR hK hA hRc n (some q5) (0 : Int32) (nc + 1) (ns + r2.toNatClampNeg) t5 H locs ls (lv_sub hl [2, 1, 0] rfl) hO hc hw
def C_X3_readAnnotations_w (b : Nat → Nat) (k : Nat → ClassId) (MC MS : Nat) (Q : Option Nat → cS → Prop) (σ : cS) : Prop := C_X3_readAnnotations_b0 b k MC MS Q 0 0 σ
abbrev rmX3_readAnnotations (MC MS : Nat) : Room := { frames := 24, cells := MC, slots := MS, locals := 546 }
set_option maxHeartbeats 4000000 in
set_option maxRecDepth 100000 in
theorem cC_X3_readAnnotations (l : Launch) (dC : Nat → ClassId) (dI : Nat → Nat → Nat) (b : Nat → Nat) (k : Nat → ClassId) (σ : cS) (sz : Nat) (MC MS : Nat) (Q : Option Nat → cS → Prop) (hw : C_X3_readAnnotations_w b k MC MS Q σ) : Met l yX3_readAnnotations wsX3_readAnnotations (rmX3_readAnnotations MC MS) (cPc dC dI b k sz σ [.ref (b 10)]) (va_Qq Q (cAt dC dI (va_A (cCells b k σ) sz) b k) (va_A (cCells b k σ) sz)) MC MS (va_A (cCells b k σ) sz) := by
  refine Met.ofW (cc := cX3_readAnnotations) (maxL := 3) (ret := (some (.array (.object "ClassFileIndex$Value")))) (by decide) rfl ?_
  intro p e s m args below meth c s₁ B hml hv
  obtain ⟨hargs, hsz, hP, hK, hD0⟩ := hv
  have hts := atoms_spec (ws := wsX3_readAnnotations) B.pre
  have hown : s.vm.findClass RX3 = some m.cls := findClass_of_methodNamed B.named
  subst hsz
  subst hargs
  have hD := hD0.self (sz := s.heap.size)
  generalize hAe : va_A (cCells b k σ) s.heap.size = A at hD ⊢
  have hA : ∀ q : Nat, s.heap.size ≤ q → A q := fun q h => by rw [← hAe]; exact Or.inr h
  have hl := lv_entry ([.ref (b 10)]) (n := 3) (Nat.le_of_ble_eq_true rfl)
  rw [lg_entry_eq]
  generalize (lg_sl ([.ref (b 10)]) ++ List.replicate (3 - (lg_sl ([.ref (b 10)])).length) Slot.unset).toArray = ls at hl ⊢
  have hl : lv_has ls 3 [(0, .ref (b 10))] := hl
  unfold C_X3_readAnnotations_w at hw
  exact cB_X3_readAnnotations_0 ⟨B.exec, B.bytes, hml, hown, hts⟩ B.returns B.notSynchronized ⟨Nat.le_of_ble_eq_true rfl, Nat.le_of_ble_eq_true rfl⟩ hK hA ⟨rfl, rfl⟩ 0 0 σ s.heap [] ls (lv_sub hl [0] rfl) ⟨hP, hD, va_S.rf⟩ ⟨Nat.zero_le _, Nat.zero_le _⟩ hw
def C_X3_readFile_b116 (b : Nat → Nat) (k : Nat → ClassId) (MC MS : Nat) (Q : Option Nat → cS → Prop) (x5 : Int32) (x6 : Int32) (x7 : Int32) (x8 : Int32) (x9 : Option Nat) (x10 : Option Nat) (x11 : Option Nat) (nc : Nat) (ns : Nat) (σ : cS) : Prop :=
 ((σ.1 3) = 0 → nc + 1 ≤ MC ∧ ns + 8 ≤ MS ∧ ∀ (q125 : Nat) (t125 : cS), t125 = sN σ (q125, .inr (0, [.int 0, .int 0, .int 0, .int 0, .null, .null, .null, .null])) → ∃ mc143 ms143 : Nat, (nc + 1) + mc143 ≤ MC ∧ (ns + 8) + ms143 ≤ MS ∧ C_X0_init_w b k mc143 ms143 q125 (fun t143 => Q (some q125) t143) x6 x5 x7 x8 x9 x10 x11 t125) ∧ (¬ (σ.1 3) = 0 → Q none σ)
set_option maxHeartbeats 4000000 in
set_option maxRecDepth 100000 in
theorem cB_X3_readFile_116 {MC MS : Nat} {Q : Option Nat → cS → Prop} (X : CallFix p m c cX3_readFile 12 s args wsX3_readFile RX3) (hr : meth.sig.returnType = (some (.object "ClassFileIndex$ClassFile"))) (hlk : meth.locks = false) (hR : 25 ≤ R.frames ∧ 568 ≤ R.locals) (hK : cK dC dI k s) (hA : ∀ q, s.heap.size ≤ q → A q) (hRc : R.cells = MC ∧ R.slots = MS) (x5 : Int32) (x6 : Int32) (x7 : Int32) (x8 : Int32) (x9 : Option Nat) (x10 : Option Nat) (x11 : Option Nat) (nc : Nat) (ns : Nat) (σ : cS) (H : Heap) (locs : List Loc) (ls : Array Slot) (hl : lv_has ls 12 [(0, .ref (b 10)), (5, .int x5), (6, .int x6), (7, .int x7), (8, .int x8), (9, va_rf x9), (10, va_rf x10), (11, va_rf x11)]) (hO : cO dC dI b k A s.heap σ H locs) (hc : (nc ≤ MC ∧ ns ≤ MS)) (hw : C_X3_readFile_b116 b k MC MS Q x5 x6 x7 x8 x9 x10 x11 nc ns σ) : W p l e R s m args below meth c H locs nc ns (MQ below (va_Qq Q (cAt dC dI A b k) A) args s MC MS A) (F0 m 116 ls []) := by
  unfold C_X3_readFile_b116 at hw
  refine lv_aload_n X.1 X.2.1 dX3_readFile_116 rfl (lv_at hl 0 rfl) ?_
  refine cf_X3_fault X fX3_X3_fault hK hO dX3_readFile_117 ?_
  refine lv_if_eq (tgt := 125) X.1 X.2.1 dX3_readFile_120 rfl (fun hc9 => ?_) (fun hc9 => ?_)
  · have hw := hw.1 hc9
    obtain ⟨hc1, hc2, hw⟩ := hw
    have hc : nc + 1 ≤ MC ∧ ns + 8 ≤ MS := ⟨hc1, hc2⟩
    refine cn_X0 X nX3_X0 hK hO hA (by rw [hRc.1]; exact hc.1) (by rw [hRc.2]; exact hc.2) dX3_readFile_125 (fun q125 H hO => ?_)
    obtain ⟨t125, e125⟩ : ∃ z, z = sN σ (q125, .inr (0, [.int 0, .int 0, .int 0, .int 0, .null, .null, .null, .null])) := ⟨_, rfl⟩
    have hw := hw q125 t125 e125
    rw [← e125] at hO
    refine lv_dup X.1 X.2.1 dX3_readFile_128 rfl ?_
    refine lv_iload X.1 X.2.1 dX3_readFile_129 (lv_at hl 2 rfl) ?_
    refine lv_iload X.1 X.2.1 dX3_readFile_131 (lv_at hl 1 rfl) ?_
    refine lv_iload X.1 X.2.1 dX3_readFile_133 (lv_at hl 3 rfl) ?_
    refine lv_iload X.1 X.2.1 dX3_readFile_135 (lv_at hl 4 rfl) ?_
    refine lv_aloadO X.1 X.2.1 dX3_readFile_137 (lv_at hl 5 rfl) ?_
    refine lv_aloadO X.1 X.2.1 dX3_readFile_139 (lv_at hl 6 rfl) ?_
    refine lv_aloadO X.1 X.2.1 dX3_readFile_141 (lv_at hl 7 rfl) ?_
    obtain ⟨mc143, ms143, hc1, hc2, hw⟩ := hw
    have hc : (nc + 1) + mc143 ≤ MC ∧ (ns + 8) + ms143 ≤ MS := ⟨hc1, hc2⟩
    refine c_init (rest := [.ref q125]) (As := [.int x6, .int x5, .int x7, .int x8, va_rf x9, va_rf x10, va_rf x11]) X (cC_X0_init l dC dI b k t125 H.size mc143 ms143 q125 x6 x5 x7 x8 x9 x10 x11 _ hw) (cwI 7 X.2.2.2.2 (gG kX0_init rfl) rfl rfl rfl (X.2.2.2.2 _ (List.mem_cons_of_mem _ iX0)) (X.2.2.2.2 _ (List.mem_cons_of_mem _ gX3_X0_init)) (X.2.2.2.2 _ (List.mem_cons_of_mem _ uX0_init)) rfl hdX0_init ⟨Nat.le_trans (show 1 + 1 ≤ 25 by decide) hR.1, Nat.le_trans (show 8 + (10 + 11) + 60 ≤ 568 by decide) hR.2⟩) hK hA hO rfl hl.1 rfl (Nat.le_of_ble_eq_true rfl) dX3_readFile_143 (by rw [hRc.1]; exact hc.1) (by rw [hRc.2]; exact hc.2) (fun t143 H locs hO hw => ?_)
    refine W.widen (k := MC) (n := MS) hc.1 hc.2 ?_
    exact W.aret (v := va_rf (some q125)) X.1 X.2.1 hr (Or.inl ⟨_, rfl⟩) (va_rf_or _) (fun t ht hW => ⟨⟨(some q125), t143, rfl, hw, cO_end hO hK ht hW⟩, hO.2.2.F ht⟩) hO.2.2.2.2 dX3_readFile_146 hlk
  · have hw := hw.2 hc9
    refine lv_null X.1 X.2.1 dX3_readFile_123 ?_
    refine W.widen (k := MC) (n := MS) hc.1 hc.2 ?_
    exact W.aret (v := va_rf none) X.1 X.2.1 hr (Or.inl ⟨_, rfl⟩) (va_rf_or _) (fun t ht hW => ⟨⟨none, σ, rfl, hw, cO_end hO hK ht hW⟩, hO.2.2.F ht⟩) hO.2.2.2.2 dX3_readFile_124 hlk
def C_X3_readFile_b0 (b : Nat → Nat) (k : Nat → ClassId) (MC MS : Nat) (Q : Option Nat → cS → Prop) (x2 : Int32) (nc : Nat) (ns : Nat) (σ : cS) : Prop :=
 ∀ t2 : cS, t2 = sR σ 0 (b 1) → ∀ t7 : cS, t7 = sI t2 4 x2 → ∀ t12 : cS, t12 = sR t7 1 (b 2) → ∀ t18 : cS, t18 = sR t12 2 (b 5) → ∀ t23 : cS, t23 = sI t18 5 (0 : Int32) → ∀ t28 : cS, t28 = sI t23 3 (0 : Int32) → C_X3_readStart_w b k (fun t35 => C_X3_readStart_w b k (fun t42 => C_X3_readConstants_w b k (fun t46 => C_X3_nameClassConstants_w b k (fun t50 => C_X3_readAtMost_w b k (fun r55 t55 => C_X3_readName_w b k (fun r61 t61 => C_X3_readClassOrNone_w b k (fun r67 t67 => C_X3_readClassOrNone_w b k (fun r73 t73 => ∃ mc79 ms79 : Nat, nc + mc79 ≤ MC ∧ ns + ms79 ≤ MS ∧ C_X3_readInterfaces_w b k mc79 ms79 (fun r79 t79 => ∃ mc85 ms85 : Nat, (nc + mc79) + mc85 ≤ MC ∧ (ns + ms79) + ms85 ≤ MS ∧ C_X3_readAnnotations_w b k mc85 ms85 (fun r85 t85 => ∃ mc93 ms93 : Nat, ((nc + mc79) + mc85) + mc93 ≤ MC ∧ ((ns + ms79) + ms85) + ms93 ≤ MS ∧ C_X3_readParts_w b k (rvN b k 5) mc93 ms93 (fun r93 t93 => (x2 ≤ (t93.1 5) → C_X3_readFile_b116 b k MC MS Q r55 r61 r67 r73 r79 r85 r93 (((nc + mc79) + mc85) + mc93) (((ns + ms79) + ms85) + ms93) t93) ∧ (¬ x2 ≤ (t93.1 5) → C_X3_refuse_w b k (fun t113 => C_X3_readFile_b116 b k MC MS Q r55 r61 r67 r73 r79 r85 r93 (((nc + mc79) + mc85) + mc93) (((ns + ms79) + ms85) + ms93) t113) (8 : Int32) (t93.1 5) t93)) (1 : Int32) (1 : Int32) t85) t79) t73) t67) t61) t55) (3 : Int32) t50) t46) t42) (254 : Int32) t35) (202 : Int32) t28
set_option maxHeartbeats 4000000 in
set_option maxRecDepth 100000 in
theorem cB_X3_readFile_0 {MC MS : Nat} {Q : Option Nat → cS → Prop} (X : CallFix p m c cX3_readFile 12 s args wsX3_readFile RX3) (hr : meth.sig.returnType = (some (.object "ClassFileIndex$ClassFile"))) (hlk : meth.locks = false) (hR : 25 ≤ R.frames ∧ 568 ≤ R.locals) (hK : cK dC dI k s) (hA : ∀ q, s.heap.size ≤ q → A q) (hRc : R.cells = MC ∧ R.slots = MS) (x2 : Int32) (nc : Nat) (ns : Nat) (σ : cS) (H : Heap) (locs : List Loc) (ls : Array Slot) (hl : lv_has ls 12 [(0, .ref (b 10)), (1, .ref (b 1)), (2, .int x2), (3, .ref (b 2)), (4, .ref (b 5))]) (hO : cO dC dI b k A s.heap σ H locs) (hc : (nc ≤ MC ∧ ns ≤ MS)) (hw : C_X3_readFile_b0 b k MC MS Q x2 nc ns σ) : W p l e R s m args below meth c H locs nc ns (MQ below (va_Qq Q (cAt dC dI A b k) A) args s MC MS A) (F0 m 0 ls []) := by
  unfold C_X3_readFile_b0 at hw
  refine lv_aload_n X.1 X.2.1 dX3_readFile_0 rfl (lv_at hl 0 rfl) ?_
  refine lv_aload_n X.1 X.2.1 dX3_readFile_1 rfl (lv_at hl 1 rfl) ?_
  refine cp_X3_bytes X fX3_X3_bytes hK hO dX3_readFile_2 (fun H locs hO => ?_)
  obtain ⟨t2, e2⟩ : ∃ z, z = sR σ 0 (b 1) := ⟨_, rfl⟩
  have hw := hw t2 e2
  rw [← e2] at hO
  refine lv_aload_n X.1 X.2.1 dX3_readFile_5 rfl (lv_at hl 0 rfl) ?_
  refine lv_iload_n X.1 X.2.1 dX3_readFile_6 rfl (lv_at hl 2 rfl) ?_
  refine cp_X3_end X fX3_X3_end hK hO dX3_readFile_7 (fun H locs hO => ?_)
  obtain ⟨t7, e7⟩ : ∃ z, z = sI t2 4 x2 := ⟨_, rfl⟩
  have hw := hw t7 e7
  rw [← e7] at hO
  refine lv_aload_n X.1 X.2.1 dX3_readFile_10 rfl (lv_at hl 0 rfl) ?_
  refine lv_aload_n X.1 X.2.1 dX3_readFile_11 rfl (lv_at hl 3 rfl) ?_
  refine cp_X3_texts X fX3_X3_texts hK hO dX3_readFile_12 (fun H locs hO => ?_)
  obtain ⟨t12, e12⟩ : ∃ z, z = sR t7 1 (b 2) := ⟨_, rfl⟩
  have hw := hw t12 e12
  rw [← e12] at hO
  refine lv_aload_n X.1 X.2.1 dX3_readFile_15 rfl (lv_at hl 0 rfl) ?_
  refine lv_aload X.1 X.2.1 dX3_readFile_16 (lv_at hl 4 rfl) ?_
  refine cp_X3_classes X fX3_X3_classes hK hO dX3_readFile_18 (fun H locs hO => ?_)
  obtain ⟨t18, e18⟩ : ∃ z, z = sR t12 2 (b 5) := ⟨_, rfl⟩
  have hw := hw t18 e18
  rw [← e18] at hO
  refine lv_aload_n X.1 X.2.1 dX3_readFile_21 rfl (lv_at hl 0 rfl) ?_
  refine lv_iconst (v := 0) X.1 X.2.1 dX3_readFile_22 (by decide) ?_
  refine cp_X3_place X fX3_X3_place hK hO dX3_readFile_23 (fun H locs hO => ?_)
  obtain ⟨t23, e23⟩ : ∃ z, z = sI t18 5 (0 : Int32) := ⟨_, rfl⟩
  have hw := hw t23 e23
  rw [← e23] at hO
  refine lv_aload_n X.1 X.2.1 dX3_readFile_26 rfl (lv_at hl 0 rfl) ?_
  refine lv_iconst (v := 0) X.1 X.2.1 dX3_readFile_27 (by decide) ?_
  refine cp_X3_fault X fX3_X3_fault hK hO dX3_readFile_28 (fun H locs hO => ?_)
  obtain ⟨t28, e28⟩ : ∃ z, z = sI t23 3 (0 : Int32) := ⟨_, rfl⟩
  have hw := hw t28 e28
  rw [← e28] at hO
  refine lv_aload_n X.1 X.2.1 dX3_readFile_31 rfl (lv_at hl 0 rfl) ?_
  refine lv_sipush (v := 202) X.1 X.2.1 dX3_readFile_32 (by decide) ?_
  refine c_callv (rest := []) (As := [.int (202 : Int32)]) X (cC_X3_readStart l dC dI b k t28 H.size (202 : Int32) _ hw) (cwV 1 X.2.2.2.2 gX3_X3_readStart rfl rfl rfl hdX3_readStart ⟨Nat.le_trans (show 1 + 1 ≤ 25 by decide) hR.1, Nat.le_trans (show 8 + (3 + 11) + 22 ≤ 568 by decide) hR.2⟩) (cRecv_X3 hK hO) hK hA hO rfl hl.1 rfl (Nat.le_of_ble_eq_true rfl) dX3_readFile_35 (by rw [hRc.1]; exact hc.1) (by rw [hRc.2]; exact hc.2) (fun t35 H locs hO hw => ?_)
  refine lv_aload_n X.1 X.2.1 dX3_readFile_38 rfl (lv_at hl 0 rfl) ?_
  refine lv_sipush (v := 254) X.1 X.2.1 dX3_readFile_39 (by decide) ?_
  refine c_callv (rest := []) (As := [.int (254 : Int32)]) X (cC_X3_readStart l dC dI b k t35 H.size (254 : Int32) _ hw) (cwV 1 X.2.2.2.2 gX3_X3_readStart rfl rfl rfl hdX3_readStart ⟨Nat.le_trans (show 1 + 1 ≤ 25 by decide) hR.1, Nat.le_trans (show 8 + (3 + 11) + 22 ≤ 568 by decide) hR.2⟩) (cRecv_X3 hK hO) hK hA hO rfl hl.1 rfl (Nat.le_of_ble_eq_true rfl) dX3_readFile_42 (by rw [hRc.1]; exact hc.1) (by rw [hRc.2]; exact hc.2) (fun t42 H locs hO hw => ?_)
  refine lv_aload_n X.1 X.2.1 dX3_readFile_45 rfl (lv_at hl 0 rfl) ?_
  refine c_callv (rest := []) (As := []) X (cC_X3_readConstants l dC dI b k t42 H.size _ hw) (cwV 0 X.2.2.2.2 gX3_X3_readConstants rfl rfl rfl hdX3_readConstants ⟨Nat.le_trans (show 3 + 1 ≤ 25 by decide) hR.1, Nat.le_trans (show 8 + (4 + 11) + 74 ≤ 568 by decide) hR.2⟩) (cRecv_X3 hK hO) hK hA hO rfl hl.1 rfl (Nat.le_of_ble_eq_true rfl) dX3_readFile_46 (by rw [hRc.1]; exact hc.1) (by rw [hRc.2]; exact hc.2) (fun t46 H locs hO hw => ?_)
  refine lv_aload_n X.1 X.2.1 dX3_readFile_49 rfl (lv_at hl 0 rfl) ?_
  refine c_callv (rest := []) (As := []) X (cC_X3_nameClassConstants l dC dI b k t46 H.size _ hw) (cwV 0 X.2.2.2.2 gX3_X3_nameClassConstants rfl rfl rfl hdX3_nameClassConstants ⟨Nat.le_trans (show 2 + 1 ≤ 25 by decide) hR.1, Nat.le_trans (show 8 + (3 + 11) + 42 ≤ 568 by decide) hR.2⟩) (cRecv_X3 hK hO) hK hA hO rfl hl.1 rfl (Nat.le_of_ble_eq_true rfl) dX3_readFile_50 (by rw [hRc.1]; exact hc.1) (by rw [hRc.2]; exact hc.2) (fun t50 H locs hO hw => ?_)
  refine lv_aload_n X.1 X.2.1 dX3_readFile_53 rfl (lv_at hl 0 rfl) ?_
  refine lv_iconst (v := 3) X.1 X.2.1 dX3_readFile_54 (by decide) ?_
  refine c_calli (rest := []) (As := [.int (3 : Int32)]) X (cC_X3_readAtMost l dC dI b k t50 H.size (3 : Int32) _ hw) (cwV 1 X.2.2.2.2 gX3_X3_readAtMost rfl rfl rfl hdX3_readAtMost ⟨Nat.le_trans (show 1 + 1 ≤ 25 by decide) hR.1, Nat.le_trans (show 8 + (4 + 11) + 22 ≤ 568 by decide) hR.2⟩) (cRecv_X3 hK hO) hK hA hO rfl hl.1 rfl (Nat.le_of_ble_eq_true rfl) dX3_readFile_55 (by rw [hRc.1]; exact hc.1) (by rw [hRc.2]; exact hc.2) (fun r55 t55 H locs hO hw => ?_)
  refine lv_istore (lv' := [(5, .int r55), (0, .ref (b 10)), (1, .ref (b 1)), (2, .int x2), (3, .ref (b 2)), (4, .ref (b 5))]) X.1 X.2.1 dX3_readFile_58 hl (by decide) rfl (fun ls hl => ?_)
  refine lv_aload_n X.1 X.2.1 dX3_readFile_60 rfl (lv_at hl 1 rfl) ?_
  refine c_calli (rest := []) (As := []) X (cC_X3_readName l dC dI b k t55 H.size _ hw) (cwV 0 X.2.2.2.2 gX3_X3_readName rfl rfl rfl hdX3_readName ⟨Nat.le_trans (show 2 + 1 ≤ 25 by decide) hR.1, Nat.le_trans (show 8 + (3 + 11) + 45 ≤ 568 by decide) hR.2⟩) (cRecv_X3 hK hO) hK hA hO rfl hl.1 rfl (Nat.le_of_ble_eq_true rfl) dX3_readFile_61 (by rw [hRc.1]; exact hc.1) (by rw [hRc.2]; exact hc.2) (fun r61 t61 H locs hO hw => ?_)
  refine lv_istore (lv' := [(6, .int r61), (5, .int r55), (0, .ref (b 10)), (1, .ref (b 1)), (2, .int x2), (3, .ref (b 2)), (4, .ref (b 5))]) X.1 X.2.1 dX3_readFile_64 hl (by decide) rfl (fun ls hl => ?_)
  refine lv_aload_n X.1 X.2.1 dX3_readFile_66 rfl (lv_at hl 2 rfl) ?_
  refine c_calli (rest := []) (As := []) X (cC_X3_readClassOrNone l dC dI b k t61 H.size _ hw) (cwV 0 X.2.2.2.2 gX3_X3_readClassOrNone rfl rfl rfl hdX3_readClassOrNone ⟨Nat.le_trans (show 2 + 1 ≤ 25 by decide) hR.1, Nat.le_trans (show 8 + (1 + 11) + 45 ≤ 568 by decide) hR.2⟩) (cRecv_X3 hK hO) hK hA hO rfl hl.1 rfl (Nat.le_of_ble_eq_true rfl) dX3_readFile_67 (by rw [hRc.1]; exact hc.1) (by rw [hRc.2]; exact hc.2) (fun r67 t67 H locs hO hw => ?_)
  refine lv_istore (lv' := [(7, .int r67), (6, .int r61), (5, .int r55), (0, .ref (b 10)), (1, .ref (b 1)), (2, .int x2), (3, .ref (b 2)), (4, .ref (b 5))]) X.1 X.2.1 dX3_readFile_70 hl (by decide) rfl (fun ls hl => ?_)
  refine lv_aload_n X.1 X.2.1 dX3_readFile_72 rfl (lv_at hl 3 rfl) ?_
  refine c_calli (rest := []) (As := []) X (cC_X3_readClassOrNone l dC dI b k t67 H.size _ hw) (cwV 0 X.2.2.2.2 gX3_X3_readClassOrNone rfl rfl rfl hdX3_readClassOrNone ⟨Nat.le_trans (show 2 + 1 ≤ 25 by decide) hR.1, Nat.le_trans (show 8 + (1 + 11) + 45 ≤ 568 by decide) hR.2⟩) (cRecv_X3 hK hO) hK hA hO rfl hl.1 rfl (Nat.le_of_ble_eq_true rfl) dX3_readFile_73 (by rw [hRc.1]; exact hc.1) (by rw [hRc.2]; exact hc.2) (fun r73 t73 H locs hO hw => ?_)
  refine lv_istore (lv' := [(8, .int r73), (7, .int r67), (6, .int r61), (5, .int r55), (0, .ref (b 10)), (1, .ref (b 1)), (2, .int x2), (3, .ref (b 2)), (4, .ref (b 5))]) X.1 X.2.1 dX3_readFile_76 hl (by decide) rfl (fun ls hl => ?_)
  refine lv_aload_n X.1 X.2.1 dX3_readFile_78 rfl (lv_at hl 4 rfl) ?_
  obtain ⟨mc79, ms79, hc1, hc2, hw⟩ := hw
  have hc : nc + mc79 ≤ MC ∧ ns + ms79 ≤ MS := ⟨hc1, hc2⟩
  refine c_callq (rest := []) (As := []) X (cC_X3_readInterfaces l dC dI b k t73 H.size mc79 ms79 _ hw) (cwV 0 X.2.2.2.2 gX3_X3_readInterfaces rfl rfl rfl hdX3_readInterfaces ⟨Nat.le_trans (show 2 + 1 ≤ 25 by decide) hR.1, Nat.le_trans (show 8 + (3 + 11) + 45 ≤ 568 by decide) hR.2⟩) (cRecv_X3 hK hO) hK hA hO rfl hl.1 rfl (Nat.le_of_ble_eq_true rfl) dX3_readFile_79 (by rw [hRc.1]; exact hc.1) (by rw [hRc.2]; exact hc.2) (fun r79 t79 H locs hO hw => ?_)
  refine lv_astoreO (o := r79) (lv' := [(9, va_rf r79), (8, .int r73), (7, .int r67), (6, .int r61), (5, .int r55), (0, .ref (b 10)), (1, .ref (b 1)), (2, .int x2), (3, .ref (b 2)), (4, .ref (b 5))]) X.1 X.2.1 dX3_readFile_82 hl (by decide) rfl (fun ls hl => ?_)
  refine lv_aload_n X.1 X.2.1 dX3_readFile_84 rfl (lv_at hl 5 rfl) ?_
  obtain ⟨mc85, ms85, hc1, hc2, hw⟩ := hw
  have hc : (nc + mc79) + mc85 ≤ MC ∧ (ns + ms79) + ms85 ≤ MS := ⟨hc1, hc2⟩
  refine c_callq (rest := []) (As := []) X (cC_X3_readAnnotations l dC dI b k t79 H.size mc85 ms85 _ hw) (cwV 0 X.2.2.2.2 gX3_X3_readAnnotations rfl rfl rfl hdX3_readAnnotations ⟨Nat.le_trans (show 24 + 1 ≤ 25 by decide) hR.1, Nat.le_trans (show 8 + (3 + 11) + 546 ≤ 568 by decide) hR.2⟩) (cRecv_X3 hK hO) hK hA hO rfl hl.1 rfl (Nat.le_of_ble_eq_true rfl) dX3_readFile_85 (by rw [hRc.1]; exact hc.1) (by rw [hRc.2]; exact hc.2) (fun r85 t85 H locs hO hw => ?_)
  refine lv_astoreO (o := r85) (lv' := [(10, va_rf r85), (9, va_rf r79), (8, .int r73), (7, .int r67), (6, .int r61), (5, .int r55), (0, .ref (b 10)), (1, .ref (b 1)), (2, .int x2), (3, .ref (b 2)), (4, .ref (b 5))]) X.1 X.2.1 dX3_readFile_88 hl (by decide) (by cases r79 <;> rfl) (fun ls hl => ?_)
  refine lv_aload_n X.1 X.2.1 dX3_readFile_90 rfl (lv_at hl 6 rfl) ?_
  refine lv_iconst (v := 1) X.1 X.2.1 dX3_readFile_91 (by decide) ?_
  refine lv_iconst (v := 1) X.1 X.2.1 dX3_readFile_92 (by decide) ?_
  obtain ⟨mc93, ms93, hc1, hc2, hw⟩ := hw
  have hc : ((nc + mc79) + mc85) + mc93 ≤ MC ∧ ((ns + ms79) + ms85) + ms93 ≤ MS := ⟨hc1, hc2⟩
  refine c_callq (rest := []) (As := [.int (1 : Int32), .int (1 : Int32)]) X (cC_X3_readParts (rvN b k 5) (4 * 5) (91 * 5) l dC dI b k (cC_rv l dC dI b k 5) t85 H.size mc93 ms93 (1 : Int32) (1 : Int32) _ hw) (cwV 2 X.2.2.2.2 gX3_X3_readParts rfl rfl rfl hdX3_readParts ⟨Nat.le_trans (show 22 + 1 ≤ 25 by decide) hR.1, Nat.le_trans (show 8 + (5 + 11) + 500 ≤ 568 by decide) hR.2⟩) (cRecv_X3 hK hO) hK hA hO rfl hl.1 rfl (Nat.le_of_ble_eq_true rfl) dX3_readFile_93 (by rw [hRc.1]; exact hc.1) (by rw [hRc.2]; exact hc.2) (fun r93 t93 H locs hO hw => ?_)
  refine lv_astoreO (o := r93) (lv' := [(11, va_rf r93), (10, va_rf r85), (9, va_rf r79), (8, .int r73), (7, .int r67), (6, .int r61), (5, .int r55), (0, .ref (b 10)), (1, .ref (b 1)), (2, .int x2), (3, .ref (b 2)), (4, .ref (b 5))]) X.1 X.2.1 dX3_readFile_96 hl (by decide) (by cases r85 <;> rfl) (fun ls hl => ?_)
  refine lv_aload_n X.1 X.2.1 dX3_readFile_98 rfl (lv_at hl 7 rfl) ?_
  refine cf_X3_place X fX3_X3_place hK hO dX3_readFile_99 ?_
  refine lv_iload_n X.1 X.2.1 dX3_readFile_102 rfl (lv_at hl 9 rfl) ?_
  refine lv_icmp_ge (tgt := 116) X.1 X.2.1 dX3_readFile_103 rfl (fun hc9 => ?_) (fun hc9 => ?_)
  · have hw := hw.1 hc9
    exact cB_X3_readFile_116 X hr hlk hR hK hA hRc r55 r61 r67 r73 r79 r85 r93 (((nc + mc79) + mc85) + mc93) (((ns + ms79) + ms85) + ms93) t93 H locs ls (lv_sub hl [7, 6, 5, 4, 3, 2, 1, 0] rfl) hO hc hw
  · have hw := hw.2 hc9
    refine lv_aload_n X.1 X.2.1 dX3_readFile_106 rfl (lv_at hl 7 rfl) ?_
    refine lv_bipush (v := 8) X.1 X.2.1 dX3_readFile_107 (by decide) ?_
    refine lv_aload_n X.1 X.2.1 dX3_readFile_109 rfl (lv_at hl 7 rfl) ?_
    refine cf_X3_place X fX3_X3_place hK hO dX3_readFile_110 ?_
    refine c_callv (rest := []) (As := [.int (8 : Int32), .int (t93.1 5)]) X (cC_X3_refuse l dC dI b k t93 H.size (8 : Int32) (t93.1 5) _ hw) (cwV 2 X.2.2.2.2 gX3_X3_refuse rfl rfl rfl hdX3_refuse ⟨Nat.le_trans (show 0 + 1 ≤ 25 by decide) hR.1, Nat.le_trans (show 8 + (3 + 11) + 0 ≤ 568 by decide) hR.2⟩) (cRecv_X3 hK hO) hK hA hO rfl hl.1 rfl (Nat.le_of_ble_eq_true rfl) dX3_readFile_113 (by rw [hRc.1]; exact hc.1) (by rw [hRc.2]; exact hc.2) (fun t113 H locs hO hw => ?_)
    exact cB_X3_readFile_116 X hr hlk hR hK hA hRc r55 r61 r67 r73 r79 r85 r93 (((nc + mc79) + mc85) + mc93) (((ns + ms79) + ms85) + ms93) t113 H locs ls (lv_sub hl [7, 6, 5, 4, 3, 2, 1, 0] rfl) hO hc hw
def C_X3_readFile_w (b : Nat → Nat) (k : Nat → ClassId) (MC MS : Nat) (Q : Option Nat → cS → Prop) (x2 : Int32) (σ : cS) : Prop := C_X3_readFile_b0 b k MC MS Q x2 0 0 σ
abbrev rmX3_readFile (MC MS : Nat) : Room := { frames := 25, cells := MC, slots := MS, locals := 568 }
set_option maxHeartbeats 4000000 in
set_option maxRecDepth 100000 in
theorem cC_X3_readFile (l : Launch) (dC : Nat → ClassId) (dI : Nat → Nat → Nat) (b : Nat → Nat) (k : Nat → ClassId) (σ : cS) (sz : Nat) (MC MS : Nat) (x2 : Int32) (Q : Option Nat → cS → Prop) (hw : C_X3_readFile_w b k MC MS Q x2 σ) : Met l yX3_readFile wsX3_readFile (rmX3_readFile MC MS) (cPc dC dI b k sz σ [.ref (b 10), .ref (b 1), .int x2, .ref (b 2), .ref (b 5)]) (va_Qq Q (cAt dC dI (va_A (cCells b k σ) sz) b k) (va_A (cCells b k σ) sz)) MC MS (va_A (cCells b k σ) sz) := by
  refine Met.ofW (cc := cX3_readFile) (maxL := 12) (ret := (some (.object "ClassFileIndex$ClassFile"))) (by decide) rfl ?_
  intro p e s m args below meth c s₁ B hml hv
  obtain ⟨hargs, hsz, hP, hK, hD0⟩ := hv
  have hts := atoms_spec (ws := wsX3_readFile) B.pre
  have hown : s.vm.findClass RX3 = some m.cls := findClass_of_methodNamed B.named
  subst hsz
  subst hargs
  have hD := hD0.self (sz := s.heap.size)
  generalize hAe : va_A (cCells b k σ) s.heap.size = A at hD ⊢
  have hA : ∀ q : Nat, s.heap.size ≤ q → A q := fun q h => by rw [← hAe]; exact Or.inr h
  have hl := lv_entry ([.ref (b 10), .ref (b 1), .int x2, .ref (b 2), .ref (b 5)]) (n := 12) (Nat.le_of_ble_eq_true rfl)
  rw [lg_entry_eq]
  generalize (lg_sl ([.ref (b 10), .ref (b 1), .int x2, .ref (b 2), .ref (b 5)]) ++ List.replicate (12 - (lg_sl ([.ref (b 10), .ref (b 1), .int x2, .ref (b 2), .ref (b 5)])).length) Slot.unset).toArray = ls at hl ⊢
  have hl : lv_has ls 12 [(0, .ref (b 10)), (1, .ref (b 1)), (2, .int x2), (3, .ref (b 2)), (4, .ref (b 5))] := hl
  unfold C_X3_readFile_w at hw
  exact cB_X3_readFile_0 ⟨B.exec, B.bytes, hml, hown, hts⟩ B.returns B.notSynchronized ⟨Nat.le_of_ble_eq_true rfl, Nat.le_of_ble_eq_true rfl⟩ hK hA ⟨rfl, rfl⟩ x2 0 0 σ s.heap [] ls (lv_sub hl [0, 1, 2, 3, 4] rfl) ⟨hP, hD, va_S.rf⟩ ⟨Nat.zero_le _, Nat.zero_le _⟩ hw
end
