section
variable {p : Program} {l : Launch} {e : Env} {R : Room} {s : State} {m : MethodId} {args : Array Value} {below : List Frame} {meth : Method} {c : Code}
variable {dC : Nat → ClassId} {dI : Nat → Nat → Nat} {h : Nat} {a : Nat → Nat} {cI cZ : ClassId} {A : Nat → Prop}
def R_wholeFile_b333 (Q : rS → Prop) (σ : rS) : Prop :=
 Q σ
set_option maxHeartbeats 4000000 in
set_option maxRecDepth 100000 in
theorem rB_wholeFile_333 {Q : rS → Prop} (X : CallFix p m c cX7_wholeFile 6 s args wsX7_wholeFile RX7) (hr : meth.sig.returnType = none) (hlk : meth.locks = false) (hR : 5 ≤ R.frames ∧ 117 ≤ R.locals) (hK : va_K (dC, dI) vwCl [(cI, .int), (cZ, .boolean)] s) (hA : ∀ q, s.heap.size ≤ q → A q) (σ : rS) (H : Heap) (locs : List Loc) (ls : Array Slot) (hl : lv_has ls 6 [(0, .ref h)]) (hO : rO dC dI h a cI cZ A s.heap σ H locs) (hw : R_wholeFile_b333 Q σ) : W p l e R s m args below meth c H locs 0 0 (MQ below (va_Qv Q (rAt dC dI A h a cI cZ) A) args s 0 0 A) (F0 m 333 ls []) := by
  unfold R_wholeFile_b333 at hw
  exact W.vret X.1 X.2.1 hr (fun t ht hW => ⟨⟨σ, rfl, hw, rO_end hO hK ht hW⟩, hO.2.2.F ht⟩) hO.2.2.2.2 dX7_wholeFile_333 hlk
def R_wholeFile_b218_s (Q : rS → Prop) (K218 : Int32 → rS → Prop) (x4 : Int32) (σ : rS) : Prop :=
 vp_in (σ.1 18) 16 ∧ ((σ.2 15 (σ.1 18).toNatClampNeg) ≤ x4 → vp_in (σ.1 18) 16 ∧ ∀ t298 : rS, t298 = rA σ 17 (σ.1 18) ((σ.1 19) + (σ.1 21)) → R_many_w (fun r301 t301 => R_values_w (fun t309 => ((t309.1 20) ≤ (t309.1 21) → R_wholeFile_b333 Q t309) ∧ (¬ (t309.1 20) ≤ (t309.1 21) → R_fail_w (fun t330 => R_wholeFile_b333 Q t330) (8 : Int32) (t309.1 21) t309)) r301 t301) (4 : Int32) t298) ∧ (¬ (σ.2 15 (σ.1 18).toNatClampNeg) ≤ x4 → vp_in (((4 : Int32) * (σ.1 18)) + x4) 64 ∧ ∀ t254 : rS, t254 = rA σ 16 (((4 : Int32) * (σ.1 18)) + x4) ((σ.1 19) + (σ.1 21)) → R_constant_w (fun r258 t258 => R_many_w (fun r264 t264 => R_values_w (fun t272 => ∀ v275 : Int32, v275 = x4 + (1 : Int32) → K218 v275 t272) r264 t264) (4 : Int32) t258) (7 : Int32) t254)
def R_wholeFile_b218_f (Q : rS → Prop) : (Int32 × rS → Prop) → Int32 × rS → Prop :=
 fun K z => R_wholeFile_b218_s Q (fun x4 σ => K (x4, σ)) z.1 z.2
def R_wholeFile_b218 (Q : rS → Prop) (x4 : Int32) (σ : rS) : Prop := ∃ n, fx (R_wholeFile_b218_f Q ) n (x4, σ)
set_option maxHeartbeats 4000000 in
set_option maxRecDepth 100000 in
theorem rB_wholeFile_218 {Q : rS → Prop} (X : CallFix p m c cX7_wholeFile 6 s args wsX7_wholeFile RX7) (hr : meth.sig.returnType = none) (hlk : meth.locks = false) (hR : 5 ≤ R.frames ∧ 117 ≤ R.locals) (hK : va_K (dC, dI) vwCl [(cI, .int), (cZ, .boolean)] s) (hA : ∀ q, s.heap.size ≤ q → A q) : ∀ (n : Nat) (x4 : Int32) (σ : rS) (H : Heap) (locs : List Loc) (ls : Array Slot), lv_has ls 6 [(0, .ref h), (4, .int x4)] → rO dC dI h a cI cZ A s.heap σ H locs → fx (R_wholeFile_b218_f Q ) n (x4, σ) → W p l e R s m args below meth c H locs 0 0 (MQ below (va_Qv Q (rAt dC dI A h a cI cZ) A) args s 0 0 A) (F0 m 218 ls []) := by
  intro n
  induction n with
  | zero => intro x4 σ H locs ls hl hO hw; exact False.elim hw
  | succ n k218 =>
    intro x4 σ H locs ls hl hO hw
    have hw : R_wholeFile_b218_s Q (fun x4 σ => fx (R_wholeFile_b218_f Q ) n (x4, σ)) x4 σ := hw
    unfold R_wholeFile_b218_s at hw
    refine lv_iload X.1 X.2.1 dX7_wholeFile_218 (lv_at hl 1 rfl) ?_
    refine lv_aload_n X.1 X.2.1 dX7_wholeFile_220 rfl (lv_at hl 0 rfl) ?_
    refine rf_noteCount X hK hO dX7_wholeFile_221 ?_
    refine lv_aload_n X.1 X.2.1 dX7_wholeFile_224 rfl (lv_at hl 0 rfl) ?_
    refine rf_now X hK hO dX7_wholeFile_225 ?_
    obtain ⟨g228, hw⟩ := hw
    refine ra_noteCount X.1 X.2.1 hK hO g228 dX7_wholeFile_228 ?_
    refine lv_icmp_ge (tgt := 281) X.1 X.2.1 dX7_wholeFile_229 rfl (fun hc9 => ?_) (fun hc9 => ?_)
    · have hw := hw.1 hc9
      refine lv_aload_n X.1 X.2.1 dX7_wholeFile_281 rfl (lv_at hl 0 rfl) ?_
      refine rf_rest X hK hO dX7_wholeFile_282 ?_
      refine lv_aload_n X.1 X.2.1 dX7_wholeFile_285 rfl (lv_at hl 0 rfl) ?_
      refine rf_now X hK hO dX7_wholeFile_286 ?_
      refine lv_aload_n X.1 X.2.1 dX7_wholeFile_289 rfl (lv_at hl 0 rfl) ?_
      refine rf_base X hK hO dX7_wholeFile_290 ?_
      refine lv_aload_n X.1 X.2.1 dX7_wholeFile_293 rfl (lv_at hl 0 rfl) ?_
      refine rf_at X hK hO dX7_wholeFile_294 ?_
      refine lv_iadd X.1 X.2.1 dX7_wholeFile_297 ?_
      obtain ⟨g298, hw⟩ := hw
      refine rs_rest X.1 X.2.1 hK hO g298 dX7_wholeFile_298 (fun H locs hO => ?_)
      obtain ⟨t298, e298⟩ : ∃ z, z = rA σ 17 (σ.1 18) ((σ.1 19) + (σ.1 21)) := ⟨_, rfl⟩
      have hw := hw t298 e298
      rw [← e298] at hO
      refine lv_aload_n X.1 X.2.1 dX7_wholeFile_299 rfl (lv_at hl 0 rfl) ?_
      refine lv_iconst (v := 4) X.1 X.2.1 dX7_wholeFile_300 (by decide) ?_
      refine r_calli (rest := []) (As := [.int (4 : Int32)]) X (rC_many l dC dI h a cI cZ t298 H.size (4 : Int32) _ hw) (cwV 1 X.2.2.2.2 gX7_many rfl rfl rfl hdX7_many ⟨Nat.le_trans (by decide) hR.1, Nat.le_trans (by decide) hR.2⟩) hK hA hO rfl hl.1 rfl (Nat.le_of_ble_eq_true rfl) dX7_wholeFile_301 (fun r301 t301 H locs hO hw => ?_)
      refine lv_istore (lv' := [(4, .int r301), (0, .ref h)]) X.1 X.2.1 dX7_wholeFile_304 hl (by decide) rfl (fun ls hl => ?_)
      refine lv_aload_n X.1 X.2.1 dX7_wholeFile_306 rfl (lv_at hl 1 rfl) ?_
      refine lv_iload X.1 X.2.1 dX7_wholeFile_307 (lv_at hl 0 rfl) ?_
      refine r_callv (rest := []) (As := [.int r301]) X (rC_values l dC dI h a cI cZ t301 H.size r301 _ hw) (cwV 1 X.2.2.2.2 gX7_values rfl rfl rfl hdX7_values ⟨Nat.le_trans (by decide) hR.1, Nat.le_trans (by decide) hR.2⟩) hK hA hO rfl hl.1 rfl (Nat.le_of_ble_eq_true rfl) dX7_wholeFile_309 (fun t309 H locs hO hw => ?_)
      refine lv_aload_n X.1 X.2.1 dX7_wholeFile_312 rfl (lv_at hl 1 rfl) ?_
      refine rf_at X hK hO dX7_wholeFile_313 ?_
      refine lv_aload_n X.1 X.2.1 dX7_wholeFile_316 rfl (lv_at hl 1 rfl) ?_
      refine rf_end X hK hO dX7_wholeFile_317 ?_
      refine lv_icmp_ge (tgt := 333) X.1 X.2.1 dX7_wholeFile_320 rfl (fun hc9 => ?_) (fun hc9 => ?_)
      · have hw := hw.1 hc9
        exact rB_wholeFile_333 X hr hlk hR hK hA t309 H locs ls (lv_sub hl [1] rfl) hO hw
      · have hw := hw.2 hc9
        refine lv_aload_n X.1 X.2.1 dX7_wholeFile_323 rfl (lv_at hl 1 rfl) ?_
        refine lv_bipush (v := 8) X.1 X.2.1 dX7_wholeFile_324 (by decide) ?_
        refine lv_aload_n X.1 X.2.1 dX7_wholeFile_326 rfl (lv_at hl 1 rfl) ?_
        refine rf_at X hK hO dX7_wholeFile_327 ?_
        refine r_callv (rest := []) (As := [.int (8 : Int32), .int (t309.1 21)]) X (rC_fail l dC dI h a cI cZ t309 H.size (8 : Int32) (t309.1 21) _ hw) (cwV 2 X.2.2.2.2 gX7_fail rfl rfl rfl hdX7_fail ⟨Nat.le_trans (by decide) hR.1, Nat.le_trans (by decide) hR.2⟩) hK hA hO rfl hl.1 rfl (Nat.le_of_ble_eq_true rfl) dX7_wholeFile_330 (fun t330 H locs hO hw => ?_)
        exact rB_wholeFile_333 X hr hlk hR hK hA t330 H locs ls (lv_sub hl [1] rfl) hO hw
    · have hw := hw.2 hc9
      refine lv_aload_n X.1 X.2.1 dX7_wholeFile_232 rfl (lv_at hl 0 rfl) ?_
      refine rf_note X hK hO dX7_wholeFile_233 ?_
      refine lv_iconst (v := 4) X.1 X.2.1 dX7_wholeFile_236 (by decide) ?_
      refine lv_aload_n X.1 X.2.1 dX7_wholeFile_237 rfl (lv_at hl 0 rfl) ?_
      refine rf_now X hK hO dX7_wholeFile_238 ?_
      refine lv_imul X.1 X.2.1 dX7_wholeFile_241 ?_
      refine lv_iload X.1 X.2.1 dX7_wholeFile_242 (lv_at hl 1 rfl) ?_
      refine lv_iadd X.1 X.2.1 dX7_wholeFile_244 ?_
      refine lv_aload_n X.1 X.2.1 dX7_wholeFile_245 rfl (lv_at hl 0 rfl) ?_
      refine rf_base X hK hO dX7_wholeFile_246 ?_
      refine lv_aload_n X.1 X.2.1 dX7_wholeFile_249 rfl (lv_at hl 0 rfl) ?_
      refine rf_at X hK hO dX7_wholeFile_250 ?_
      refine lv_iadd X.1 X.2.1 dX7_wholeFile_253 ?_
      obtain ⟨g254, hw⟩ := hw
      refine rs_note X.1 X.2.1 hK hO g254 dX7_wholeFile_254 (fun H locs hO => ?_)
      obtain ⟨t254, e254⟩ : ∃ z, z = rA σ 16 (((4 : Int32) * (σ.1 18)) + x4) ((σ.1 19) + (σ.1 21)) := ⟨_, rfl⟩
      have hw := hw t254 e254
      rw [← e254] at hO
      refine lv_aload_n X.1 X.2.1 dX7_wholeFile_255 rfl (lv_at hl 0 rfl) ?_
      refine lv_bipush (v := 7) X.1 X.2.1 dX7_wholeFile_256 (by decide) ?_
      refine r_calli (rest := []) (As := [.int (7 : Int32)]) X (rC_constant l dC dI h a cI cZ t254 H.size (7 : Int32) _ hw) (cwV 1 X.2.2.2.2 gX7_constant rfl rfl rfl hdX7_constant ⟨Nat.le_trans (by decide) hR.1, Nat.le_trans (by decide) hR.2⟩) hK hA hO rfl hl.1 rfl (Nat.le_of_ble_eq_true rfl) dX7_wholeFile_258 (fun r258 t258 H locs hO hw => ?_)
      refine lv_pop X.1 X.2.1 dX7_wholeFile_261 rfl ?_
      refine lv_aload_n X.1 X.2.1 dX7_wholeFile_262 rfl (lv_at hl 0 rfl) ?_
      refine lv_iconst (v := 4) X.1 X.2.1 dX7_wholeFile_263 (by decide) ?_
      refine r_calli (rest := []) (As := [.int (4 : Int32)]) X (rC_many l dC dI h a cI cZ t258 H.size (4 : Int32) _ hw) (cwV 1 X.2.2.2.2 gX7_many rfl rfl rfl hdX7_many ⟨Nat.le_trans (by decide) hR.1, Nat.le_trans (by decide) hR.2⟩) hK hA hO rfl hl.1 rfl (Nat.le_of_ble_eq_true rfl) dX7_wholeFile_264 (fun r264 t264 H locs hO hw => ?_)
      refine lv_istore (lv' := [(5, .int r264), (0, .ref h), (4, .int x4)]) X.1 X.2.1 dX7_wholeFile_267 hl (by decide) rfl (fun ls hl => ?_)
      refine lv_aload_n X.1 X.2.1 dX7_wholeFile_269 rfl (lv_at hl 1 rfl) ?_
      refine lv_iload X.1 X.2.1 dX7_wholeFile_270 (lv_at hl 0 rfl) ?_
      refine r_callv (rest := []) (As := [.int r264]) X (rC_values l dC dI h a cI cZ t264 H.size r264 _ hw) (cwV 1 X.2.2.2.2 gX7_values rfl rfl rfl hdX7_values ⟨Nat.le_trans (by decide) hR.1, Nat.le_trans (by decide) hR.2⟩) hK hA hO rfl hl.1 rfl (Nat.le_of_ble_eq_true rfl) dX7_wholeFile_272 (fun t272 H locs hO hw => ?_)
      obtain ⟨v275, e275⟩ : ∃ z, z = x4 + (1 : Int32) := ⟨_, rfl⟩
      have hw := hw v275 e275
      refine lv_iinc (lv' := [(4, .int v275), (5, .int r264), (0, .ref h)]) (k := 2) (v := v275) X.1 X.2.1 dX7_wholeFile_275 hl rfl (by rw [e275]; rfl) (by decide) rfl (fun ls hl => ?_)
      refine lv_goto (tgt := 218) X.1 X.2.1 dX7_wholeFile_278 rfl ?_
      exact k218 v275 t272 H locs ls (lv_sub hl [2, 0] rfl) hO hw
def R_wholeFile_b161_s (Q : rS → Prop) (K161 : Int32 → rS → Prop) (x4 : Int32) (σ : rS) : Prop :=
 vp_in (σ.1 18) 16 ∧ ((σ.2 13 (σ.1 18).toNatClampNeg) ≤ x4 → R_many_w (fun r211 t211 => vp_in (σ.1 18) 16 ∧ ∀ t214 : rS, t214 = rA t211 15 (σ.1 18) r211 → R_wholeFile_b218 Q (0 : Int32) t214) (4 : Int32) σ) ∧ (¬ (σ.2 13 (σ.1 18).toNatClampNeg) ≤ x4 → R_constant_w (fun r191 t191 => vp_in (((4 : Int32) * (σ.1 18)) + x4) 64 ∧ ∀ t194 : rS, t194 = rA t191 14 (((4 : Int32) * (σ.1 18)) + x4) r191 → ∀ v195 : Int32, v195 = x4 + (1 : Int32) → K161 v195 t194) (7 : Int32) σ)
def R_wholeFile_b161_f (Q : rS → Prop) : (Int32 × rS → Prop) → Int32 × rS → Prop :=
 fun K z => R_wholeFile_b161_s Q (fun x4 σ => K (x4, σ)) z.1 z.2
def R_wholeFile_b161 (Q : rS → Prop) (x4 : Int32) (σ : rS) : Prop := ∃ n, fx (R_wholeFile_b161_f Q ) n (x4, σ)
set_option maxHeartbeats 4000000 in
set_option maxRecDepth 100000 in
theorem rB_wholeFile_161 {Q : rS → Prop} (X : CallFix p m c cX7_wholeFile 6 s args wsX7_wholeFile RX7) (hr : meth.sig.returnType = none) (hlk : meth.locks = false) (hR : 5 ≤ R.frames ∧ 117 ≤ R.locals) (hK : va_K (dC, dI) vwCl [(cI, .int), (cZ, .boolean)] s) (hA : ∀ q, s.heap.size ≤ q → A q) : ∀ (n : Nat) (x4 : Int32) (σ : rS) (H : Heap) (locs : List Loc) (ls : Array Slot), lv_has ls 6 [(0, .ref h), (4, .int x4)] → rO dC dI h a cI cZ A s.heap σ H locs → fx (R_wholeFile_b161_f Q ) n (x4, σ) → W p l e R s m args below meth c H locs 0 0 (MQ below (va_Qv Q (rAt dC dI A h a cI cZ) A) args s 0 0 A) (F0 m 161 ls []) := by
  intro n
  induction n with
  | zero => intro x4 σ H locs ls hl hO hw; exact False.elim hw
  | succ n k161 =>
    intro x4 σ H locs ls hl hO hw
    have hw : R_wholeFile_b161_s Q (fun x4 σ => fx (R_wholeFile_b161_f Q ) n (x4, σ)) x4 σ := hw
    unfold R_wholeFile_b161_s at hw
    refine lv_iload X.1 X.2.1 dX7_wholeFile_161 (lv_at hl 1 rfl) ?_
    refine lv_aload_n X.1 X.2.1 dX7_wholeFile_163 rfl (lv_at hl 0 rfl) ?_
    refine rf_faceCount X hK hO dX7_wholeFile_164 ?_
    refine lv_aload_n X.1 X.2.1 dX7_wholeFile_167 rfl (lv_at hl 0 rfl) ?_
    refine rf_now X hK hO dX7_wholeFile_168 ?_
    obtain ⟨g171, hw⟩ := hw
    refine ra_faceCount X.1 X.2.1 hK hO g171 dX7_wholeFile_171 ?_
    refine lv_icmp_ge (tgt := 201) X.1 X.2.1 dX7_wholeFile_172 rfl (fun hc9 => ?_) (fun hc9 => ?_)
    · have hw := hw.1 hc9
      refine lv_aload_n X.1 X.2.1 dX7_wholeFile_201 rfl (lv_at hl 0 rfl) ?_
      refine rf_noteCount X hK hO dX7_wholeFile_202 ?_
      refine lv_aload_n X.1 X.2.1 dX7_wholeFile_205 rfl (lv_at hl 0 rfl) ?_
      refine rf_now X hK hO dX7_wholeFile_206 ?_
      refine lv_aload_n X.1 X.2.1 dX7_wholeFile_209 rfl (lv_at hl 0 rfl) ?_
      refine lv_iconst (v := 4) X.1 X.2.1 dX7_wholeFile_210 (by decide) ?_
      refine r_calli (rest := [.int (σ.1 18), .ref (a 15)]) (As := [.int (4 : Int32)]) X (rC_many l dC dI h a cI cZ σ H.size (4 : Int32) _ hw) (cwV 1 X.2.2.2.2 gX7_many rfl rfl rfl hdX7_many ⟨Nat.le_trans (by decide) hR.1, Nat.le_trans (by decide) hR.2⟩) hK hA hO rfl hl.1 rfl (Nat.le_of_ble_eq_true rfl) dX7_wholeFile_211 (fun r211 t211 H locs hO hw => ?_)
      obtain ⟨g214, hw⟩ := hw
      refine rs_noteCount X.1 X.2.1 hK hO g214 dX7_wholeFile_214 (fun H locs hO => ?_)
      obtain ⟨t214, e214⟩ : ∃ z, z = rA t211 15 (σ.1 18) r211 := ⟨_, rfl⟩
      have hw := hw t214 e214
      rw [← e214] at hO
      refine lv_iconst (v := 0) X.1 X.2.1 dX7_wholeFile_215 (by decide) ?_
      refine lv_istore (lv' := [(4, .int (0 : Int32)), (0, .ref h)]) X.1 X.2.1 dX7_wholeFile_216 hl (by decide) rfl (fun ls hl => ?_)
      obtain ⟨n, hw⟩ := hw
      exact rB_wholeFile_218 X hr hlk hR hK hA n (0 : Int32) t214 H locs ls (lv_sub hl [1, 0] rfl) hO hw
    · have hw := hw.2 hc9
      refine lv_aload_n X.1 X.2.1 dX7_wholeFile_175 rfl (lv_at hl 0 rfl) ?_
      refine rf_face X hK hO dX7_wholeFile_176 ?_
      refine lv_iconst (v := 4) X.1 X.2.1 dX7_wholeFile_179 (by decide) ?_
      refine lv_aload_n X.1 X.2.1 dX7_wholeFile_180 rfl (lv_at hl 0 rfl) ?_
      refine rf_now X hK hO dX7_wholeFile_181 ?_
      refine lv_imul X.1 X.2.1 dX7_wholeFile_184 ?_
      refine lv_iload X.1 X.2.1 dX7_wholeFile_185 (lv_at hl 1 rfl) ?_
      refine lv_iadd X.1 X.2.1 dX7_wholeFile_187 ?_
      refine lv_aload_n X.1 X.2.1 dX7_wholeFile_188 rfl (lv_at hl 0 rfl) ?_
      refine lv_bipush (v := 7) X.1 X.2.1 dX7_wholeFile_189 (by decide) ?_
      refine r_calli (rest := [.int (((4 : Int32) * (σ.1 18)) + x4), .ref (a 14)]) (As := [.int (7 : Int32)]) X (rC_constant l dC dI h a cI cZ σ H.size (7 : Int32) _ hw) (cwV 1 X.2.2.2.2 gX7_constant rfl rfl rfl hdX7_constant ⟨Nat.le_trans (by decide) hR.1, Nat.le_trans (by decide) hR.2⟩) hK hA hO rfl hl.1 rfl (Nat.le_of_ble_eq_true rfl) dX7_wholeFile_191 (fun r191 t191 H locs hO hw => ?_)
      obtain ⟨g194, hw⟩ := hw
      refine rs_face X.1 X.2.1 hK hO g194 dX7_wholeFile_194 (fun H locs hO => ?_)
      obtain ⟨t194, e194⟩ : ∃ z, z = rA t191 14 (((4 : Int32) * (σ.1 18)) + x4) r191 := ⟨_, rfl⟩
      have hw := hw t194 e194
      rw [← e194] at hO
      obtain ⟨v195, e195⟩ : ∃ z, z = x4 + (1 : Int32) := ⟨_, rfl⟩
      have hw := hw v195 e195
      refine lv_iinc (lv' := [(4, .int v195), (0, .ref h)]) (k := 1) (v := v195) X.1 X.2.1 dX7_wholeFile_195 hl rfl (by rw [e195]; rfl) (by decide) rfl (fun ls hl => ?_)
      refine lv_goto (tgt := 161) X.1 X.2.1 dX7_wholeFile_198 rfl ?_
      exact k161 v195 t194 H locs ls (lv_sub hl [1, 0] rfl) hO hw
def R_wholeFile_b118 (Q : rS → Prop) (σ : rS) : Prop :=
 R_classOrNone_w (fun r127 t127 => vp_in (σ.1 18) 16 ∧ ∀ t130 : rS, t130 = rA t127 11 (σ.1 18) r127 → R_classOrNone_w (fun r140 t140 => vp_in (t130.1 18) 16 ∧ ∀ t143 : rS, t143 = rA t140 12 (t130.1 18) r140 → R_many_w (fun r154 t154 => vp_in (t143.1 18) 16 ∧ ∀ t157 : rS, t157 = rA t154 13 (t143.1 18) r154 → R_wholeFile_b161 Q (0 : Int32) t157) (4 : Int32) t143) t130) σ
set_option maxHeartbeats 4000000 in
set_option maxRecDepth 100000 in
theorem rB_wholeFile_118 {Q : rS → Prop} (X : CallFix p m c cX7_wholeFile 6 s args wsX7_wholeFile RX7) (hr : meth.sig.returnType = none) (hlk : meth.locks = false) (hR : 5 ≤ R.frames ∧ 117 ≤ R.locals) (hK : va_K (dC, dI) vwCl [(cI, .int), (cZ, .boolean)] s) (hA : ∀ q, s.heap.size ≤ q → A q) (σ : rS) (H : Heap) (locs : List Loc) (ls : Array Slot) (hl : lv_has ls 6 [(0, .ref h)]) (hO : rO dC dI h a cI cZ A s.heap σ H locs) (hw : R_wholeFile_b118 Q σ) : W p l e R s m args below meth c H locs 0 0 (MQ below (va_Qv Q (rAt dC dI A h a cI cZ) A) args s 0 0 A) (F0 m 118 ls []) := by
  unfold R_wholeFile_b118 at hw
  refine lv_aload_n X.1 X.2.1 dX7_wholeFile_118 rfl (lv_at hl 0 rfl) ?_
  refine rf_above X hK hO dX7_wholeFile_119 ?_
  refine lv_aload_n X.1 X.2.1 dX7_wholeFile_122 rfl (lv_at hl 0 rfl) ?_
  refine rf_now X hK hO dX7_wholeFile_123 ?_
  refine lv_aload_n X.1 X.2.1 dX7_wholeFile_126 rfl (lv_at hl 0 rfl) ?_
  refine r_calli (rest := [.int (σ.1 18), .ref (a 11)]) (As := []) X (rC_classOrNone l dC dI h a cI cZ σ H.size _ hw) (cwV 0 X.2.2.2.2 gX7_classOrNone rfl rfl rfl hdX7_classOrNone ⟨Nat.le_trans (by decide) hR.1, Nat.le_trans (by decide) hR.2⟩) hK hA hO rfl hl.1 rfl (Nat.le_of_ble_eq_true rfl) dX7_wholeFile_127 (fun r127 t127 H locs hO hw => ?_)
  obtain ⟨g130, hw⟩ := hw
  refine rs_above X.1 X.2.1 hK hO g130 dX7_wholeFile_130 (fun H locs hO => ?_)
  obtain ⟨t130, e130⟩ : ∃ z, z = rA t127 11 (σ.1 18) r127 := ⟨_, rfl⟩
  have hw := hw t130 e130
  rw [← e130] at hO
  refine lv_aload_n X.1 X.2.1 dX7_wholeFile_131 rfl (lv_at hl 0 rfl) ?_
  refine rf_box X hK hO dX7_wholeFile_132 ?_
  refine lv_aload_n X.1 X.2.1 dX7_wholeFile_135 rfl (lv_at hl 0 rfl) ?_
  refine rf_now X hK hO dX7_wholeFile_136 ?_
  refine lv_aload_n X.1 X.2.1 dX7_wholeFile_139 rfl (lv_at hl 0 rfl) ?_
  refine r_calli (rest := [.int (t130.1 18), .ref (a 12)]) (As := []) X (rC_classOrNone l dC dI h a cI cZ t130 H.size _ hw) (cwV 0 X.2.2.2.2 gX7_classOrNone rfl rfl rfl hdX7_classOrNone ⟨Nat.le_trans (by decide) hR.1, Nat.le_trans (by decide) hR.2⟩) hK hA hO rfl hl.1 rfl (Nat.le_of_ble_eq_true rfl) dX7_wholeFile_140 (fun r140 t140 H locs hO hw => ?_)
  obtain ⟨g143, hw⟩ := hw
  refine rs_box X.1 X.2.1 hK hO g143 dX7_wholeFile_143 (fun H locs hO => ?_)
  obtain ⟨t143, e143⟩ : ∃ z, z = rA t140 12 (t130.1 18) r140 := ⟨_, rfl⟩
  have hw := hw t143 e143
  rw [← e143] at hO
  refine lv_aload_n X.1 X.2.1 dX7_wholeFile_144 rfl (lv_at hl 0 rfl) ?_
  refine rf_faceCount X hK hO dX7_wholeFile_145 ?_
  refine lv_aload_n X.1 X.2.1 dX7_wholeFile_148 rfl (lv_at hl 0 rfl) ?_
  refine rf_now X hK hO dX7_wholeFile_149 ?_
  refine lv_aload_n X.1 X.2.1 dX7_wholeFile_152 rfl (lv_at hl 0 rfl) ?_
  refine lv_iconst (v := 4) X.1 X.2.1 dX7_wholeFile_153 (by decide) ?_
  refine r_calli (rest := [.int (t143.1 18), .ref (a 13)]) (As := [.int (4 : Int32)]) X (rC_many l dC dI h a cI cZ t143 H.size (4 : Int32) _ hw) (cwV 1 X.2.2.2.2 gX7_many rfl rfl rfl hdX7_many ⟨Nat.le_trans (by decide) hR.1, Nat.le_trans (by decide) hR.2⟩) hK hA hO rfl hl.1 rfl (Nat.le_of_ble_eq_true rfl) dX7_wholeFile_154 (fun r154 t154 H locs hO hw => ?_)
  obtain ⟨g157, hw⟩ := hw
  refine rs_faceCount X.1 X.2.1 hK hO g157 dX7_wholeFile_157 (fun H locs hO => ?_)
  obtain ⟨t157, e157⟩ : ∃ z, z = rA t154 13 (t143.1 18) r154 := ⟨_, rfl⟩
  have hw := hw t157 e157
  rw [← e157] at hO
  refine lv_iconst (v := 0) X.1 X.2.1 dX7_wholeFile_158 (by decide) ?_
  refine lv_istore (lv' := [(4, .int (0 : Int32)), (0, .ref h)]) X.1 X.2.1 dX7_wholeFile_159 hl (by decide) rfl (fun ls hl => ?_)
  obtain ⟨n, hw⟩ := hw
  exact rB_wholeFile_161 X hr hlk hR hK hA n (0 : Int32) t157 H locs ls (lv_sub hl [1, 0] rfl) hO hw
def R_wholeFile_b50 (Q : rS → Prop) (σ : rS) : Prop :=
 R_allConstants_w (fun t51 => R_many_w (fun r64 t64 => vp_in (t51.1 18) 16 ∧ ∀ t67 : rS, t67 = rA t64 9 (t51.1 18) r64 → ∀ v72 : Int32, v72 = (t67.1 21) → R_constant_w (fun r84 t84 => vp_in (t67.1 18) 16 ∧ ∀ t87 : rS, t87 = rA t84 10 (t67.1 18) r84 → (¬ (t87.1 23) = 0 → R_wholeFile_b118 Q t87) ∧ ((t87.1 23) = 0 → vp_in (t87.1 18) 16 ∧ R_taken_w (fun r105 t105 => (r105 = 0 → R_wholeFile_b118 Q t105) ∧ (¬ r105 = 0 → R_fail_w (fun t115 => R_wholeFile_b118 Q t115) (9 : Int32) v72 t105)) (t87.2 10 (t87.1 18).toNatClampNeg) t87)) (7 : Int32) t67) (3 : Int32) t51) σ
set_option maxHeartbeats 4000000 in
set_option maxRecDepth 100000 in
theorem rB_wholeFile_50 {Q : rS → Prop} (X : CallFix p m c cX7_wholeFile 6 s args wsX7_wholeFile RX7) (hr : meth.sig.returnType = none) (hlk : meth.locks = false) (hR : 5 ≤ R.frames ∧ 117 ≤ R.locals) (hK : va_K (dC, dI) vwCl [(cI, .int), (cZ, .boolean)] s) (hA : ∀ q, s.heap.size ≤ q → A q) (σ : rS) (H : Heap) (locs : List Loc) (ls : Array Slot) (hl : lv_has ls 6 [(0, .ref h)]) (hO : rO dC dI h a cI cZ A s.heap σ H locs) (hw : R_wholeFile_b50 Q σ) : W p l e R s m args below meth c H locs 0 0 (MQ below (va_Qv Q (rAt dC dI A h a cI cZ) A) args s 0 0 A) (F0 m 50 ls []) := by
  unfold R_wholeFile_b50 at hw
  refine lv_aload_n X.1 X.2.1 dX7_wholeFile_50 rfl (lv_at hl 0 rfl) ?_
  refine r_callv (rest := []) (As := []) X (rC_allConstants l dC dI h a cI cZ σ H.size _ hw) (cwV 0 X.2.2.2.2 gX7_allConstants rfl rfl rfl hdX7_allConstants ⟨Nat.le_trans (by decide) hR.1, Nat.le_trans (by decide) hR.2⟩) hK hA hO rfl hl.1 rfl (Nat.le_of_ble_eq_true rfl) dX7_wholeFile_51 (fun t51 H locs hO hw => ?_)
  refine lv_aload_n X.1 X.2.1 dX7_wholeFile_54 rfl (lv_at hl 0 rfl) ?_
  refine rf_flag X hK hO dX7_wholeFile_55 ?_
  refine lv_aload_n X.1 X.2.1 dX7_wholeFile_58 rfl (lv_at hl 0 rfl) ?_
  refine rf_now X hK hO dX7_wholeFile_59 ?_
  refine lv_aload_n X.1 X.2.1 dX7_wholeFile_62 rfl (lv_at hl 0 rfl) ?_
  refine lv_iconst (v := 3) X.1 X.2.1 dX7_wholeFile_63 (by decide) ?_
  refine r_calli (rest := [.int (t51.1 18), .ref (a 9)]) (As := [.int (3 : Int32)]) X (rC_many l dC dI h a cI cZ t51 H.size (3 : Int32) _ hw) (cwV 1 X.2.2.2.2 gX7_many rfl rfl rfl hdX7_many ⟨Nat.le_trans (by decide) hR.1, Nat.le_trans (by decide) hR.2⟩) hK hA hO rfl hl.1 rfl (Nat.le_of_ble_eq_true rfl) dX7_wholeFile_64 (fun r64 t64 H locs hO hw => ?_)
  obtain ⟨g67, hw⟩ := hw
  refine rs_flag X.1 X.2.1 hK hO g67 dX7_wholeFile_67 (fun H locs hO => ?_)
  obtain ⟨t67, e67⟩ : ∃ z, z = rA t64 9 (t51.1 18) r64 := ⟨_, rfl⟩
  have hw := hw t67 e67
  rw [← e67] at hO
  refine lv_aload_n X.1 X.2.1 dX7_wholeFile_68 rfl (lv_at hl 0 rfl) ?_
  refine rf_at X hK hO dX7_wholeFile_69 ?_
  refine lv_topi (fun v72 e72 => ?_)
  have hw := hw v72 e72
  refine lv_istore_n (lv' := [(3, .int v72), (0, .ref h)]) X.1 X.2.1 dX7_wholeFile_72 rfl hl (by decide) rfl (fun ls hl => ?_)
  refine lv_aload_n X.1 X.2.1 dX7_wholeFile_73 rfl (lv_at hl 1 rfl) ?_
  refine rf_self X hK hO dX7_wholeFile_74 ?_
  refine lv_aload_n X.1 X.2.1 dX7_wholeFile_77 rfl (lv_at hl 1 rfl) ?_
  refine rf_now X hK hO dX7_wholeFile_78 ?_
  refine lv_aload_n X.1 X.2.1 dX7_wholeFile_81 rfl (lv_at hl 1 rfl) ?_
  refine lv_bipush (v := 7) X.1 X.2.1 dX7_wholeFile_82 (by decide) ?_
  refine r_calli (rest := [.int (t67.1 18), .ref (a 10)]) (As := [.int (7 : Int32)]) X (rC_constant l dC dI h a cI cZ t67 H.size (7 : Int32) _ hw) (cwV 1 X.2.2.2.2 gX7_constant rfl rfl rfl hdX7_constant ⟨Nat.le_trans (by decide) hR.1, Nat.le_trans (by decide) hR.2⟩) hK hA hO rfl hl.1 rfl (Nat.le_of_ble_eq_true rfl) dX7_wholeFile_84 (fun r84 t84 H locs hO hw => ?_)
  obtain ⟨g87, hw⟩ := hw
  refine rs_self X.1 X.2.1 hK hO g87 dX7_wholeFile_87 (fun H locs hO => ?_)
  obtain ⟨t87, e87⟩ : ∃ z, z = rA t84 10 (t67.1 18) r84 := ⟨_, rfl⟩
  have hw := hw t87 e87
  rw [← e87] at hO
  refine lv_aload_n X.1 X.2.1 dX7_wholeFile_88 rfl (lv_at hl 1 rfl) ?_
  refine rf_reason X hK hO dX7_wholeFile_89 ?_
  refine lv_if_ne (tgt := 118) X.1 X.2.1 dX7_wholeFile_92 rfl (fun hc9 => ?_) (fun hc9 => ?_)
  · have hw := hw.1 hc9
    exact rB_wholeFile_118 X hr hlk hR hK hA t87 H locs ls (lv_sub hl [1] rfl) hO hw
  · have hw := hw.2 hc9
    refine lv_aload_n X.1 X.2.1 dX7_wholeFile_95 rfl (lv_at hl 1 rfl) ?_
    refine lv_aload_n X.1 X.2.1 dX7_wholeFile_96 rfl (lv_at hl 1 rfl) ?_
    refine rf_self X hK hO dX7_wholeFile_97 ?_
    refine lv_aload_n X.1 X.2.1 dX7_wholeFile_100 rfl (lv_at hl 1 rfl) ?_
    refine rf_now X hK hO dX7_wholeFile_101 ?_
    obtain ⟨g104, hw⟩ := hw
    refine ra_self X.1 X.2.1 hK hO g104 dX7_wholeFile_104 ?_
    refine r_calli (rest := []) (As := [.int (t87.2 10 (t87.1 18).toNatClampNeg)]) X (rC_taken l dC dI h a cI cZ t87 H.size (t87.2 10 (t87.1 18).toNatClampNeg) _ hw) (cwV 1 X.2.2.2.2 gX7_taken rfl rfl rfl hdX7_taken ⟨Nat.le_trans (by decide) hR.1, Nat.le_trans (by decide) hR.2⟩) hK hA hO rfl hl.1 rfl (Nat.le_of_ble_eq_true rfl) dX7_wholeFile_105 (fun r105 t105 H locs hO hw => ?_)
    refine lv_if_eq (tgt := 118) X.1 X.2.1 dX7_wholeFile_108 rfl (fun hc9 => ?_) (fun hc9 => ?_)
    · have hw := hw.1 hc9
      exact rB_wholeFile_118 X hr hlk hR hK hA t105 H locs ls (lv_sub hl [1] rfl) hO hw
    · have hw := hw.2 hc9
      refine lv_aload_n X.1 X.2.1 dX7_wholeFile_111 rfl (lv_at hl 1 rfl) ?_
      refine lv_bipush (v := 9) X.1 X.2.1 dX7_wholeFile_112 (by decide) ?_
      refine lv_iload_n X.1 X.2.1 dX7_wholeFile_114 rfl (lv_at hl 0 rfl) ?_
      refine r_callv (rest := []) (As := [.int (9 : Int32), .int v72]) X (rC_fail l dC dI h a cI cZ t105 H.size (9 : Int32) v72 _ hw) (cwV 2 X.2.2.2.2 gX7_fail rfl rfl rfl hdX7_fail ⟨Nat.le_trans (by decide) hR.1, Nat.le_trans (by decide) hR.2⟩) hK hA hO rfl hl.1 rfl (Nat.le_of_ble_eq_true rfl) dX7_wholeFile_115 (fun t115 H locs hO hw => ?_)
      exact rB_wholeFile_118 X hr hlk hR hK hA t115 H locs ls (lv_sub hl [1] rfl) hO hw
def R_wholeFile_b25 (Q : rS → Prop) (σ : rS) : Prop :=
 R_take_w (fun r26 t26 => (¬ (t26.1 23) = 0 → R_wholeFile_b50 Q t26) ∧ ((t26.1 23) = 0 → (r26 = (254 : Int32) → R_wholeFile_b50 Q t26) ∧ (¬ r26 = (254 : Int32) → R_fail_w (fun t47 => R_wholeFile_b50 Q t47) (2 : Int32) (1 : Int32) t26))) σ
set_option maxHeartbeats 4000000 in
set_option maxRecDepth 100000 in
theorem rB_wholeFile_25 {Q : rS → Prop} (X : CallFix p m c cX7_wholeFile 6 s args wsX7_wholeFile RX7) (hr : meth.sig.returnType = none) (hlk : meth.locks = false) (hR : 5 ≤ R.frames ∧ 117 ≤ R.locals) (hK : va_K (dC, dI) vwCl [(cI, .int), (cZ, .boolean)] s) (hA : ∀ q, s.heap.size ≤ q → A q) (σ : rS) (H : Heap) (locs : List Loc) (ls : Array Slot) (hl : lv_has ls 6 [(0, .ref h)]) (hO : rO dC dI h a cI cZ A s.heap σ H locs) (hw : R_wholeFile_b25 Q σ) : W p l e R s m args below meth c H locs 0 0 (MQ below (va_Qv Q (rAt dC dI A h a cI cZ) A) args s 0 0 A) (F0 m 25 ls []) := by
  unfold R_wholeFile_b25 at hw
  refine lv_aload_n X.1 X.2.1 dX7_wholeFile_25 rfl (lv_at hl 0 rfl) ?_
  refine r_calli (rest := []) (As := []) X (rC_take l dC dI h a cI cZ σ H.size _ hw) (cwV 0 X.2.2.2.2 gX7_take rfl rfl rfl hdX7_take ⟨Nat.le_trans (by decide) hR.1, Nat.le_trans (by decide) hR.2⟩) hK hA hO rfl hl.1 rfl (Nat.le_of_ble_eq_true rfl) dX7_wholeFile_26 (fun r26 t26 H locs hO hw => ?_)
  refine lv_istore_n (lv' := [(2, .int r26), (0, .ref h)]) X.1 X.2.1 dX7_wholeFile_29 rfl hl (by decide) rfl (fun ls hl => ?_)
  refine lv_aload_n X.1 X.2.1 dX7_wholeFile_30 rfl (lv_at hl 1 rfl) ?_
  refine rf_reason X hK hO dX7_wholeFile_31 ?_
  refine lv_if_ne (tgt := 50) X.1 X.2.1 dX7_wholeFile_34 rfl (fun hc9 => ?_) (fun hc9 => ?_)
  · have hw := hw.1 hc9
    exact rB_wholeFile_50 X hr hlk hR hK hA t26 H locs ls (lv_sub hl [1] rfl) hO hw
  · have hw := hw.2 hc9
    refine lv_iload_n X.1 X.2.1 dX7_wholeFile_37 rfl (lv_at hl 0 rfl) ?_
    refine lv_sipush (v := 254) X.1 X.2.1 dX7_wholeFile_38 (by decide) ?_
    refine lv_icmp_eq (tgt := 50) X.1 X.2.1 dX7_wholeFile_41 rfl (fun hc9 => ?_) (fun hc9 => ?_)
    · have hw := hw.1 hc9
      exact rB_wholeFile_50 X hr hlk hR hK hA t26 H locs ls (lv_sub hl [1] rfl) hO hw
    · have hw := hw.2 hc9
      refine lv_aload_n X.1 X.2.1 dX7_wholeFile_44 rfl (lv_at hl 1 rfl) ?_
      refine lv_iconst (v := 2) X.1 X.2.1 dX7_wholeFile_45 (by decide) ?_
      refine lv_iconst (v := 1) X.1 X.2.1 dX7_wholeFile_46 (by decide) ?_
      refine r_callv (rest := []) (As := [.int (2 : Int32), .int (1 : Int32)]) X (rC_fail l dC dI h a cI cZ t26 H.size (2 : Int32) (1 : Int32) _ hw) (cwV 2 X.2.2.2.2 gX7_fail rfl rfl rfl hdX7_fail ⟨Nat.le_trans (by decide) hR.1, Nat.le_trans (by decide) hR.2⟩) hK hA hO rfl hl.1 rfl (Nat.le_of_ble_eq_true rfl) dX7_wholeFile_47 (fun t47 H locs hO hw => ?_)
      exact rB_wholeFile_50 X hr hlk hR hK hA t47 H locs ls (lv_sub hl [1] rfl) hO hw
def R_wholeFile_b0 (Q : rS → Prop) (σ : rS) : Prop :=
 R_take_w (fun r1 t1 => (¬ (t1.1 23) = 0 → R_wholeFile_b25 Q t1) ∧ ((t1.1 23) = 0 → (r1 = (202 : Int32) → R_wholeFile_b25 Q t1) ∧ (¬ r1 = (202 : Int32) → R_fail_w (fun t22 => R_wholeFile_b25 Q t22) (2 : Int32) (0 : Int32) t1))) σ
set_option maxHeartbeats 4000000 in
set_option maxRecDepth 100000 in
theorem rB_wholeFile_0 {Q : rS → Prop} (X : CallFix p m c cX7_wholeFile 6 s args wsX7_wholeFile RX7) (hr : meth.sig.returnType = none) (hlk : meth.locks = false) (hR : 5 ≤ R.frames ∧ 117 ≤ R.locals) (hK : va_K (dC, dI) vwCl [(cI, .int), (cZ, .boolean)] s) (hA : ∀ q, s.heap.size ≤ q → A q) (σ : rS) (H : Heap) (locs : List Loc) (ls : Array Slot) (hl : lv_has ls 6 [(0, .ref h)]) (hO : rO dC dI h a cI cZ A s.heap σ H locs) (hw : R_wholeFile_b0 Q σ) : W p l e R s m args below meth c H locs 0 0 (MQ below (va_Qv Q (rAt dC dI A h a cI cZ) A) args s 0 0 A) (F0 m 0 ls []) := by
  unfold R_wholeFile_b0 at hw
  refine lv_aload_n X.1 X.2.1 dX7_wholeFile_0 rfl (lv_at hl 0 rfl) ?_
  refine r_calli (rest := []) (As := []) X (rC_take l dC dI h a cI cZ σ H.size _ hw) (cwV 0 X.2.2.2.2 gX7_take rfl rfl rfl hdX7_take ⟨Nat.le_trans (by decide) hR.1, Nat.le_trans (by decide) hR.2⟩) hK hA hO rfl hl.1 rfl (Nat.le_of_ble_eq_true rfl) dX7_wholeFile_1 (fun r1 t1 H locs hO hw => ?_)
  refine lv_istore_n (lv' := [(1, .int r1), (0, .ref h)]) X.1 X.2.1 dX7_wholeFile_4 rfl hl (by decide) rfl (fun ls hl => ?_)
  refine lv_aload_n X.1 X.2.1 dX7_wholeFile_5 rfl (lv_at hl 1 rfl) ?_
  refine rf_reason X hK hO dX7_wholeFile_6 ?_
  refine lv_if_ne (tgt := 25) X.1 X.2.1 dX7_wholeFile_9 rfl (fun hc9 => ?_) (fun hc9 => ?_)
  · have hw := hw.1 hc9
    exact rB_wholeFile_25 X hr hlk hR hK hA t1 H locs ls (lv_sub hl [1] rfl) hO hw
  · have hw := hw.2 hc9
    refine lv_iload_n X.1 X.2.1 dX7_wholeFile_12 rfl (lv_at hl 0 rfl) ?_
    refine lv_sipush (v := 202) X.1 X.2.1 dX7_wholeFile_13 (by decide) ?_
    refine lv_icmp_eq (tgt := 25) X.1 X.2.1 dX7_wholeFile_16 rfl (fun hc9 => ?_) (fun hc9 => ?_)
    · have hw := hw.1 hc9
      exact rB_wholeFile_25 X hr hlk hR hK hA t1 H locs ls (lv_sub hl [1] rfl) hO hw
    · have hw := hw.2 hc9
      refine lv_aload_n X.1 X.2.1 dX7_wholeFile_19 rfl (lv_at hl 1 rfl) ?_
      refine lv_iconst (v := 2) X.1 X.2.1 dX7_wholeFile_20 (by decide) ?_
      refine lv_iconst (v := 0) X.1 X.2.1 dX7_wholeFile_21 (by decide) ?_
      refine r_callv (rest := []) (As := [.int (2 : Int32), .int (0 : Int32)]) X (rC_fail l dC dI h a cI cZ t1 H.size (2 : Int32) (0 : Int32) _ hw) (cwV 2 X.2.2.2.2 gX7_fail rfl rfl rfl hdX7_fail ⟨Nat.le_trans (by decide) hR.1, Nat.le_trans (by decide) hR.2⟩) hK hA hO rfl hl.1 rfl (Nat.le_of_ble_eq_true rfl) dX7_wholeFile_22 (fun t22 H locs hO hw => ?_)
      exact rB_wholeFile_25 X hr hlk hR hK hA t22 H locs ls (lv_sub hl [1] rfl) hO hw
def R_wholeFile_w (Q : rS → Prop) (σ : rS) : Prop := R_wholeFile_b0 Q σ
abbrev rmX7_wholeFile : Room := { frames := 5, cells := 0, slots := 0, locals := 117 }
set_option maxHeartbeats 4000000 in
set_option maxRecDepth 100000 in
theorem rC_wholeFile (l : Launch) (dC : Nat → ClassId) (dI : Nat → Nat → Nat) (h : Nat) (a : Nat → Nat) (cI cZ : ClassId) (σ : rS) (sz : Nat) (Q : rS → Prop) (hw : R_wholeFile_w Q σ) : Met l yX7_wholeFile wsX7_wholeFile rmX7_wholeFile (rPc dC dI h a cI cZ sz σ [.ref h]) (va_Qv Q (rAt dC dI (va_A (rCells h a cI cZ σ) sz) h a cI cZ) (va_A (rCells h a cI cZ σ) sz)) 0 0 (va_A (rCells h a cI cZ σ) sz) := by
  refine Met.ofW (cc := cX7_wholeFile) (maxL := 6) (ret := none) (by decide) rfl ?_
  intro p e s m args below meth c s₁ B hml hv
  obtain ⟨hargs, hsz, hP, hK, hD0⟩ := hv
  have hts := atoms_spec (ws := wsX7_wholeFile) B.pre
  have hown : s.vm.findClass RX7 = some m.cls := findClass_of_methodNamed B.named
  subst hsz
  subst hargs
  have hD := hD0.self (sz := s.heap.size)
  generalize hAe : va_A (rCells h a cI cZ σ) s.heap.size = A at hD ⊢
  have hA : ∀ q : Nat, s.heap.size ≤ q → A q := fun q h => by rw [← hAe]; exact Or.inr h
  have hl := lv_entry ([.ref h]) (n := 6) (Nat.le_of_ble_eq_true rfl)
  rw [lg_entry_eq]
  generalize (lg_sl ([.ref h]) ++ List.replicate (6 - (lg_sl ([.ref h])).length) Slot.unset).toArray = ls at hl ⊢
  have hl : lv_has ls 6 [(0, .ref h)] := hl
  unfold R_wholeFile_w at hw
  exact rB_wholeFile_0 ⟨B.exec, B.bytes, hml, hown, hts⟩ B.returns B.notSynchronized ⟨Nat.le_of_ble_eq_true rfl, Nat.le_of_ble_eq_true rfl⟩ hK hA σ s.heap [] ls (lv_sub hl [0] rfl) ⟨hP, hD, va_S.rf⟩ hw
def R_number_b2_s (Q : Int32 → rS → Prop) (K2 : Int32 → Int32 → rS → Prop) (x1 : Int32) (x2 : Int32) (σ : rS) : Prop :=
 ((σ.1 5) ≤ x2 → vp_in (σ.1 5) 192 ∧ ∀ t41 : rS, t41 = rA σ 4 (σ.1 5) x1 → ∀ t49 : rS, t49 = rI t41 5 ((t41.1 5) + (1 : Int32)) → Q ((t49.1 5) - (1 : Int32)) t49) ∧ (¬ (σ.1 5) ≤ x2 → vp_in x2 192 ∧ R_sameText_w (fun r18 t18 => (r18 = 0 → ∀ v26 : Int32, v26 = x2 + (1 : Int32) → K2 x1 v26 t18) ∧ (¬ r18 = 0 → Q x2 t18)) (σ.2 4 x2.toNatClampNeg) x1 σ)
def R_number_b2_f (Q : Int32 → rS → Prop) : (Int32 × Int32 × rS → Prop) → Int32 × Int32 × rS → Prop :=
 fun K z => R_number_b2_s Q (fun x1 x2 σ => K (x1, x2, σ)) z.1 z.2.1 z.2.2
def R_number_b2 (Q : Int32 → rS → Prop) (x1 : Int32) (x2 : Int32) (σ : rS) : Prop := ∃ n, fx (R_number_b2_f Q ) n (x1, x2, σ)
set_option maxHeartbeats 4000000 in
set_option maxRecDepth 100000 in
theorem rB_number_2 {Q : Int32 → rS → Prop} (X : CallFix p m c cX7_number 3 s args wsX7_number RX7) (hr : meth.sig.returnType = (some .int)) (hlk : meth.locks = false) (hR : 1 ≤ R.frames ∧ 24 ≤ R.locals) (hK : va_K (dC, dI) vwCl [(cI, .int), (cZ, .boolean)] s) (hA : ∀ q, s.heap.size ≤ q → A q) : ∀ (n : Nat) (x1 : Int32) (x2 : Int32) (σ : rS) (H : Heap) (locs : List Loc) (ls : Array Slot), lv_has ls 3 [(0, .ref h), (1, .int x1), (2, .int x2)] → rO dC dI h a cI cZ A s.heap σ H locs → fx (R_number_b2_f Q ) n (x1, x2, σ) → W p l e R s m args below meth c H locs 0 0 (MQ below (va_Qi Q (rAt dC dI A h a cI cZ) A) args s 0 0 A) (F0 m 2 ls []) := by
  intro n
  induction n with
  | zero => intro x1 x2 σ H locs ls hl hO hw; exact False.elim hw
  | succ n k2 =>
    intro x1 x2 σ H locs ls hl hO hw
    have hw : R_number_b2_s Q (fun x1 x2 σ => fx (R_number_b2_f Q ) n (x1, x2, σ)) x1 x2 σ := hw
    unfold R_number_b2_s at hw
    refine lv_iload_n X.1 X.2.1 dX7_number_2 rfl (lv_at hl 2 rfl) ?_
    refine lv_aload_n X.1 X.2.1 dX7_number_3 rfl (lv_at hl 0 rfl) ?_
    refine rf_texts X hK hO dX7_number_4 ?_
    refine lv_icmp_ge (tgt := 32) X.1 X.2.1 dX7_number_7 rfl (fun hc9 => ?_) (fun hc9 => ?_)
    · have hw := hw.1 hc9
      refine lv_aload_n X.1 X.2.1 dX7_number_32 rfl (lv_at hl 0 rfl) ?_
      refine rf_textAt X hK hO dX7_number_33 ?_
      refine lv_aload_n X.1 X.2.1 dX7_number_36 rfl (lv_at hl 0 rfl) ?_
      refine rf_texts X hK hO dX7_number_37 ?_
      refine lv_iload_n X.1 X.2.1 dX7_number_40 rfl (lv_at hl 1 rfl) ?_
      obtain ⟨g41, hw⟩ := hw
      refine rs_textAt X.1 X.2.1 hK hO g41 dX7_number_41 (fun H locs hO => ?_)
      obtain ⟨t41, e41⟩ : ∃ z, z = rA σ 4 (σ.1 5) x1 := ⟨_, rfl⟩
      have hw := hw t41 e41
      rw [← e41] at hO
      refine lv_aload_n X.1 X.2.1 dX7_number_42 rfl (lv_at hl 0 rfl) ?_
      refine lv_dup X.1 X.2.1 dX7_number_43 rfl ?_
      refine rf_texts X hK hO dX7_number_44 ?_
      refine lv_iconst (v := 1) X.1 X.2.1 dX7_number_47 (by decide) ?_
      refine lv_iadd X.1 X.2.1 dX7_number_48 ?_
      refine rp_texts X hK hO dX7_number_49 (fun H locs hO => ?_)
      obtain ⟨t49, e49⟩ : ∃ z, z = rI t41 5 ((t41.1 5) + (1 : Int32)) := ⟨_, rfl⟩
      have hw := hw t49 e49
      rw [← e49] at hO
      refine lv_aload_n X.1 X.2.1 dX7_number_52 rfl (lv_at hl 0 rfl) ?_
      refine rf_texts X hK hO dX7_number_53 ?_
      refine lv_iconst (v := 1) X.1 X.2.1 dX7_number_56 (by decide) ?_
      refine lv_isub X.1 X.2.1 dX7_number_57 ?_
      exact W.iret (v := ((t49.1 5) - (1 : Int32))) X.1 X.2.1 hr (fun t ht hW => ⟨⟨((t49.1 5) - (1 : Int32)), t49, rfl, hw, rO_end hO hK ht hW⟩, hO.2.2.F ht⟩) hO.2.2.2.2 dX7_number_58 hlk
    · have hw := hw.2 hc9
      refine lv_aload_n X.1 X.2.1 dX7_number_10 rfl (lv_at hl 0 rfl) ?_
      refine lv_aload_n X.1 X.2.1 dX7_number_11 rfl (lv_at hl 0 rfl) ?_
      refine rf_textAt X hK hO dX7_number_12 ?_
      refine lv_iload_n X.1 X.2.1 dX7_number_15 rfl (lv_at hl 2 rfl) ?_
      obtain ⟨g16, hw⟩ := hw
      refine ra_textAt X.1 X.2.1 hK hO g16 dX7_number_16 ?_
      refine lv_iload_n X.1 X.2.1 dX7_number_17 rfl (lv_at hl 1 rfl) ?_
      refine r_calli (rest := []) (As := [.int (σ.2 4 x2.toNatClampNeg), .int x1]) X (rC_sameText l dC dI h a cI cZ σ H.size (σ.2 4 x2.toNatClampNeg) x1 _ hw) (cwV 2 X.2.2.2.2 gX7_sameText rfl rfl rfl hdX7_sameText ⟨Nat.le_trans (by decide) hR.1, Nat.le_trans (by decide) hR.2⟩) hK hA hO rfl hl.1 rfl (Nat.le_of_ble_eq_true rfl) dX7_number_18 (fun r18 t18 H locs hO hw => ?_)
      refine lv_if_eq (tgt := 26) X.1 X.2.1 dX7_number_21 rfl (fun hc9 => ?_) (fun hc9 => ?_)
      · have hw := hw.1 hc9
        obtain ⟨v26, e26⟩ : ∃ z, z = x2 + (1 : Int32) := ⟨_, rfl⟩
        have hw := hw v26 e26
        refine lv_iinc (lv' := [(2, .int v26), (0, .ref h), (1, .int x1)]) (k := 2) (v := v26) X.1 X.2.1 dX7_number_26 hl rfl (by rw [e26]; rfl) (by decide) rfl (fun ls hl => ?_)
        refine lv_goto (tgt := 2) X.1 X.2.1 dX7_number_29 rfl ?_
        exact k2 x1 v26 t18 H locs ls (lv_sub hl [1, 2, 0] rfl) hO hw
      · have hw := hw.2 hc9
        refine lv_iload_n X.1 X.2.1 dX7_number_24 rfl (lv_at hl 2 rfl) ?_
        exact W.iret (v := x2) X.1 X.2.1 hr (fun t ht hW => ⟨⟨x2, t18, rfl, hw, rO_end hO hK ht hW⟩, hO.2.2.F ht⟩) hO.2.2.2.2 dX7_number_25 hlk
def R_number_b0 (Q : Int32 → rS → Prop) (x1 : Int32) (σ : rS) : Prop :=
 R_number_b2 Q x1 (0 : Int32) σ
set_option maxHeartbeats 4000000 in
set_option maxRecDepth 100000 in
theorem rB_number_0 {Q : Int32 → rS → Prop} (X : CallFix p m c cX7_number 3 s args wsX7_number RX7) (hr : meth.sig.returnType = (some .int)) (hlk : meth.locks = false) (hR : 1 ≤ R.frames ∧ 24 ≤ R.locals) (hK : va_K (dC, dI) vwCl [(cI, .int), (cZ, .boolean)] s) (hA : ∀ q, s.heap.size ≤ q → A q) (x1 : Int32) (σ : rS) (H : Heap) (locs : List Loc) (ls : Array Slot) (hl : lv_has ls 3 [(0, .ref h), (1, .int x1)]) (hO : rO dC dI h a cI cZ A s.heap σ H locs) (hw : R_number_b0 Q x1 σ) : W p l e R s m args below meth c H locs 0 0 (MQ below (va_Qi Q (rAt dC dI A h a cI cZ) A) args s 0 0 A) (F0 m 0 ls []) := by
  unfold R_number_b0 at hw
  refine lv_iconst (v := 0) X.1 X.2.1 dX7_number_0 (by decide) ?_
  refine lv_istore_n (lv' := [(2, .int (0 : Int32)), (0, .ref h), (1, .int x1)]) X.1 X.2.1 dX7_number_1 rfl hl (by decide) rfl (fun ls hl => ?_)
  obtain ⟨n, hw⟩ := hw
  exact rB_number_2 X hr hlk hR hK hA n x1 (0 : Int32) σ H locs ls (lv_sub hl [1, 2, 0] rfl) hO hw
def R_number_w (Q : Int32 → rS → Prop) (x1 : Int32) (σ : rS) : Prop := R_number_b0 Q x1 σ
abbrev rmX7_number : Room := { frames := 1, cells := 0, slots := 0, locals := 24 }
set_option maxHeartbeats 4000000 in
set_option maxRecDepth 100000 in
theorem rC_number (l : Launch) (dC : Nat → ClassId) (dI : Nat → Nat → Nat) (h : Nat) (a : Nat → Nat) (cI cZ : ClassId) (σ : rS) (sz : Nat) (x1 : Int32) (Q : Int32 → rS → Prop) (hw : R_number_w Q x1 σ) : Met l yX7_number wsX7_number rmX7_number (rPc dC dI h a cI cZ sz σ [.ref h, .int x1]) (va_Qi Q (rAt dC dI (va_A (rCells h a cI cZ σ) sz) h a cI cZ) (va_A (rCells h a cI cZ σ) sz)) 0 0 (va_A (rCells h a cI cZ σ) sz) := by
  refine Met.ofW (cc := cX7_number) (maxL := 3) (ret := (some .int)) (by decide) rfl ?_
  intro p e s m args below meth c s₁ B hml hv
  obtain ⟨hargs, hsz, hP, hK, hD0⟩ := hv
  have hts := atoms_spec (ws := wsX7_number) B.pre
  have hown : s.vm.findClass RX7 = some m.cls := findClass_of_methodNamed B.named
  subst hsz
  subst hargs
  have hD := hD0.self (sz := s.heap.size)
  generalize hAe : va_A (rCells h a cI cZ σ) s.heap.size = A at hD ⊢
  have hA : ∀ q : Nat, s.heap.size ≤ q → A q := fun q h => by rw [← hAe]; exact Or.inr h
  have hl := lv_entry ([.ref h, .int x1]) (n := 3) (Nat.le_of_ble_eq_true rfl)
  rw [lg_entry_eq]
  generalize (lg_sl ([.ref h, .int x1]) ++ List.replicate (3 - (lg_sl ([.ref h, .int x1])).length) Slot.unset).toArray = ls at hl ⊢
  have hl : lv_has ls 3 [(0, .ref h), (1, .int x1)] := hl
  unfold R_number_w at hw
  exact rB_number_0 ⟨B.exec, B.bytes, hml, hown, hts⟩ B.returns B.notSynchronized ⟨Nat.le_of_ble_eq_true rfl, Nat.le_of_ble_eq_true rfl⟩ hK hA x1 σ s.heap [] ls (lv_sub hl [0, 1] rfl) ⟨hP, hD, va_S.rf⟩ hw
end
