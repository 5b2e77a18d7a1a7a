section
variable {p : Program} {l : Launch} {e : Env} {R : Room} {s : State} {m : MethodId} {args : Array Value} {below : List Frame} {meth : Method} {c : Code}
variable {dC : Nat → ClassId} {dI : Nat → Nat → Nat} {h : Nat} {a : Nat → Nat} {cI cZ : ClassId} {A : Nat → Prop}
def R_read_b390_s (Q : Int32 → rS → Prop) (K390 : Int32 → rS → Prop) (x1 : Int32) (σ : rS) : Prop :=
 vp_in (σ.1 18) 16 ∧ ((σ.2 13 (σ.1 18).toNatClampNeg) ≤ x1 → ∀ t455 : rS, t455 = rI σ 3 ((σ.1 3) + (1 : Int32)) → Q (t455.1 18) t455) ∧ (¬ (σ.2 13 (σ.1 18).toNatClampNeg) ≤ x1 → vp_in (((4 : Int32) * (σ.1 18)) + x1) 64 ∧ vp_in (((13 : Int32) * (σ.1 18)) + (σ.2 14 (((4 : Int32) * (σ.1 18)) + x1).toNatClampNeg)) 208 ∧ vp_in (((4 : Int32) * (σ.1 18)) + x1) 64 ∧ ∀ t441 : rS, t441 = rA σ 14 (((4 : Int32) * (σ.1 18)) + x1) (σ.2 8 (((13 : Int32) * (σ.1 18)) + (σ.2 14 (((4 : Int32) * (σ.1 18)) + x1).toNatClampNeg)).toNatClampNeg) → ∀ v442 : Int32, v442 = x1 + (1 : Int32) → K390 v442 t441)
def R_read_b390_f (Q : Int32 → rS → Prop) : (Int32 × rS → Prop) → Int32 × rS → Prop :=
 fun K z => R_read_b390_s Q (fun x1 σ => K (x1, σ)) z.1 z.2
def R_read_b390 (Q : Int32 → rS → Prop) (x1 : Int32) (σ : rS) : Prop := ∃ n, fx (R_read_b390_f Q ) n (x1, σ)
set_option maxHeartbeats 4000000 in
set_option maxRecDepth 100000 in
theorem rB_read_390 {Q : Int32 → rS → Prop} (X : CallFix p m c cX7_read 2 s args wsX7_read RX7) (hr : meth.sig.returnType = (some .int)) (hlk : meth.locks = false) (hR : 6 ≤ R.frames ∧ 142 ≤ R.locals) (hK : va_K (dC, dI) vwCl [(cI, .int), (cZ, .boolean)] s) (hA : ∀ q, s.heap.size ≤ q → A q) : ∀ (n : Nat) (x1 : Int32) (σ : rS) (H : Heap) (locs : List Loc) (ls : Array Slot), lv_has ls 2 [(0, .ref h), (1, .int x1)] → rO dC dI h a cI cZ A s.heap σ H locs → fx (R_read_b390_f Q ) n (x1, σ) → W p l e R s m args below meth c H locs 0 0 (MQ below (va_Qi Q (rAt dC dI A h a cI cZ) A) args s 0 0 A) (F0 m 390 ls []) := by
  intro n
  induction n with
  | zero => intro x1 σ H locs ls hl hO hw; exact False.elim hw
  | succ n k390 =>
    intro x1 σ H locs ls hl hO hw
    have hw : R_read_b390_s Q (fun x1 σ => fx (R_read_b390_f Q ) n (x1, σ)) x1 σ := hw
    unfold R_read_b390_s at hw
    refine lv_iload_n X.1 X.2.1 dX7_read_390 rfl (lv_at hl 1 rfl) ?_
    refine lv_aload_n X.1 X.2.1 dX7_read_391 rfl (lv_at hl 0 rfl) ?_
    refine rf_faceCount X hK hO dX7_read_392 ?_
    refine lv_aload_n X.1 X.2.1 dX7_read_395 rfl (lv_at hl 0 rfl) ?_
    refine rf_now X hK hO dX7_read_396 ?_
    obtain ⟨g399, hw⟩ := hw
    refine ra_faceCount X.1 X.2.1 hK hO g399 dX7_read_399 ?_
    refine lv_icmp_ge (tgt := 448) X.1 X.2.1 dX7_read_400 rfl (fun hc9 => ?_) (fun hc9 => ?_)
    · have hw := hw.1 hc9
      refine lv_aload_n X.1 X.2.1 dX7_read_448 rfl (lv_at hl 0 rfl) ?_
      refine lv_dup X.1 X.2.1 dX7_read_449 rfl ?_
      refine rf_classes X hK hO dX7_read_450 ?_
      refine lv_iconst (v := 1) X.1 X.2.1 dX7_read_453 (by decide) ?_
      refine lv_iadd X.1 X.2.1 dX7_read_454 ?_
      refine rp_classes X hK hO dX7_read_455 (fun H locs hO => ?_)
      obtain ⟨t455, e455⟩ : ∃ z, z = rI σ 3 ((σ.1 3) + (1 : Int32)) := ⟨_, rfl⟩
      have hw := hw t455 e455
      rw [← e455] at hO
      refine lv_aload_n X.1 X.2.1 dX7_read_458 rfl (lv_at hl 0 rfl) ?_
      refine rf_now X hK hO dX7_read_459 ?_
      exact W.iret (v := (t455.1 18)) X.1 X.2.1 hr (fun t ht hW => ⟨⟨(t455.1 18), t455, rfl, hw, rO_end hO hK ht hW⟩, hO.2.2.F ht⟩) hO.2.2.2.2 dX7_read_462 hlk
    · have hw := hw.2 hc9
      refine lv_aload_n X.1 X.2.1 dX7_read_403 rfl (lv_at hl 0 rfl) ?_
      refine rf_face X hK hO dX7_read_404 ?_
      refine lv_iconst (v := 4) X.1 X.2.1 dX7_read_407 (by decide) ?_
      refine lv_aload_n X.1 X.2.1 dX7_read_408 rfl (lv_at hl 0 rfl) ?_
      refine rf_now X hK hO dX7_read_409 ?_
      refine lv_imul X.1 X.2.1 dX7_read_412 ?_
      refine lv_iload_n X.1 X.2.1 dX7_read_413 rfl (lv_at hl 1 rfl) ?_
      refine lv_iadd X.1 X.2.1 dX7_read_414 ?_
      refine lv_aload_n X.1 X.2.1 dX7_read_415 rfl (lv_at hl 0 rfl) ?_
      refine rf_text X hK hO dX7_read_416 ?_
      refine lv_bipush (v := 13) X.1 X.2.1 dX7_read_419 (by decide) ?_
      refine lv_aload_n X.1 X.2.1 dX7_read_421 rfl (lv_at hl 0 rfl) ?_
      refine rf_now X hK hO dX7_read_422 ?_
      refine lv_imul X.1 X.2.1 dX7_read_425 ?_
      refine lv_aload_n X.1 X.2.1 dX7_read_426 rfl (lv_at hl 0 rfl) ?_
      refine rf_face X hK hO dX7_read_427 ?_
      refine lv_iconst (v := 4) X.1 X.2.1 dX7_read_430 (by decide) ?_
      refine lv_aload_n X.1 X.2.1 dX7_read_431 rfl (lv_at hl 0 rfl) ?_
      refine rf_now X hK hO dX7_read_432 ?_
      refine lv_imul X.1 X.2.1 dX7_read_435 ?_
      refine lv_iload_n X.1 X.2.1 dX7_read_436 rfl (lv_at hl 1 rfl) ?_
      refine lv_iadd X.1 X.2.1 dX7_read_437 ?_
      obtain ⟨g438, hw⟩ := hw
      refine ra_face X.1 X.2.1 hK hO g438 dX7_read_438 ?_
      refine lv_iadd X.1 X.2.1 dX7_read_439 ?_
      obtain ⟨g440, hw⟩ := hw
      refine ra_text X.1 X.2.1 hK hO g440 dX7_read_440 ?_
      obtain ⟨g441, hw⟩ := hw
      refine rs_face X.1 X.2.1 hK hO g441 dX7_read_441 (fun H locs hO => ?_)
      obtain ⟨t441, e441⟩ : ∃ z, z = rA σ 14 (((4 : Int32) * (σ.1 18)) + x1) (σ.2 8 (((13 : Int32) * (σ.1 18)) + (σ.2 14 (((4 : Int32) * (σ.1 18)) + x1).toNatClampNeg)).toNatClampNeg) := ⟨_, rfl⟩
      have hw := hw t441 e441
      rw [← e441] at hO
      obtain ⟨v442, e442⟩ : ∃ z, z = x1 + (1 : Int32) := ⟨_, rfl⟩
      have hw := hw v442 e442
      refine lv_iinc (lv' := [(1, .int v442), (0, .ref h)]) (k := 1) (v := v442) X.1 X.2.1 dX7_read_442 hl rfl (by rw [e442]; rfl) (by decide) rfl (fun ls hl => ?_)
      refine lv_goto (tgt := 390) X.1 X.2.1 dX7_read_445 rfl ?_
      exact k390 v442 t441 H locs ls (lv_sub hl [1, 0] rfl) hO hw
def R_read_b387 (Q : Int32 → rS → Prop) (y0 : Int32) (y1 : Int32) (σ : rS) : Prop :=
 vp_in y1 16 ∧ ∀ t387 : rS, t387 = rA σ 12 y1 y0 → R_read_b390 Q (0 : Int32) t387
set_option maxHeartbeats 4000000 in
set_option maxRecDepth 100000 in
theorem rB_read_387 {Q : Int32 → rS → Prop} (X : CallFix p m c cX7_read 2 s args wsX7_read RX7) (hr : meth.sig.returnType = (some .int)) (hlk : meth.locks = false) (hR : 6 ≤ R.frames ∧ 142 ≤ R.locals) (hK : va_K (dC, dI) vwCl [(cI, .int), (cZ, .boolean)] s) (hA : ∀ q, s.heap.size ≤ q → A q) (y0 : Int32) (y1 : Int32) (σ : rS) (H : Heap) (locs : List Loc) (ls : Array Slot) (hl : lv_has ls 2 [(0, .ref h)]) (hO : rO dC dI h a cI cZ A s.heap σ H locs) (hw : R_read_b387 Q y0 y1 σ) : W p l e R s m args below meth c H locs 0 0 (MQ below (va_Qi Q (rAt dC dI A h a cI cZ) A) args s 0 0 A) (F0 m 387 ls [.int y0, .int y1, .ref (a 12)]) := by
  unfold R_read_b387 at hw
  obtain ⟨g387, hw⟩ := hw
  refine rs_box X.1 X.2.1 hK hO g387 dX7_read_387 (fun H locs hO => ?_)
  obtain ⟨t387, e387⟩ : ∃ z, z = rA σ 12 y1 y0 := ⟨_, rfl⟩
  have hw := hw t387 e387
  rw [← e387] at hO
  refine lv_iconst (v := 0) X.1 X.2.1 dX7_read_388 (by decide) ?_
  refine lv_istore_n (lv' := [(1, .int (0 : Int32)), (0, .ref h)]) X.1 X.2.1 dX7_read_389 rfl hl (by decide) rfl (fun ls hl => ?_)
  obtain ⟨n, hw⟩ := hw
  exact rB_read_390 X hr hlk hR hK hA n (0 : Int32) t387 H locs ls (lv_sub hl [1, 0] rfl) hO hw
def R_read_b340 (Q : Int32 → rS → Prop) (y0 : Int32) (y1 : Int32) (σ : rS) : Prop :=
 vp_in y1 16 ∧ ∀ t340 : rS, t340 = rA σ 11 y1 y0 → vp_in (t340.1 18) 16 ∧ (¬ (t340.2 12 (t340.1 18).toNatClampNeg) = 0 → vp_in (t340.1 18) 16 ∧ vp_in (((13 : Int32) * (t340.1 18)) + (t340.2 12 (t340.1 18).toNatClampNeg)) 208 ∧ R_read_b387 Q (t340.2 8 (((13 : Int32) * (t340.1 18)) + (t340.2 12 (t340.1 18).toNatClampNeg)).toNatClampNeg) (t340.1 18) t340) ∧ ((t340.2 12 (t340.1 18).toNatClampNeg) = 0 → R_read_b387 Q (-1 : Int32) (t340.1 18) t340)
set_option maxHeartbeats 4000000 in
set_option maxRecDepth 100000 in
theorem rB_read_340 {Q : Int32 → rS → Prop} (X : CallFix p m c cX7_read 2 s args wsX7_read RX7) (hr : meth.sig.returnType = (some .int)) (hlk : meth.locks = false) (hR : 6 ≤ R.frames ∧ 142 ≤ R.locals) (hK : va_K (dC, dI) vwCl [(cI, .int), (cZ, .boolean)] s) (hA : ∀ q, s.heap.size ≤ q → A q) (y0 : Int32) (y1 : Int32) (σ : rS) (H : Heap) (locs : List Loc) (ls : Array Slot) (hl : lv_has ls 2 [(0, .ref h)]) (hO : rO dC dI h a cI cZ A s.heap σ H locs) (hw : R_read_b340 Q y0 y1 σ) : W p l e R s m args below meth c H locs 0 0 (MQ below (va_Qi Q (rAt dC dI A h a cI cZ) A) args s 0 0 A) (F0 m 340 ls [.int y0, .int y1, .ref (a 11)]) := by
  unfold R_read_b340 at hw
  obtain ⟨g340, hw⟩ := hw
  refine rs_above X.1 X.2.1 hK hO g340 dX7_read_340 (fun H locs hO => ?_)
  obtain ⟨t340, e340⟩ : ∃ z, z = rA σ 11 y1 y0 := ⟨_, rfl⟩
  have hw := hw t340 e340
  rw [← e340] at hO
  refine lv_aload_n X.1 X.2.1 dX7_read_341 rfl (lv_at hl 0 rfl) ?_
  refine rf_box X hK hO dX7_read_342 ?_
  refine lv_aload_n X.1 X.2.1 dX7_read_345 rfl (lv_at hl 0 rfl) ?_
  refine rf_now X hK hO dX7_read_346 ?_
  refine lv_aload_n X.1 X.2.1 dX7_read_349 rfl (lv_at hl 0 rfl) ?_
  refine rf_box X hK hO dX7_read_350 ?_
  refine lv_aload_n X.1 X.2.1 dX7_read_353 rfl (lv_at hl 0 rfl) ?_
  refine rf_now X hK hO dX7_read_354 ?_
  obtain ⟨g357, hw⟩ := hw
  refine ra_box X.1 X.2.1 hK hO g357 dX7_read_357 ?_
  refine lv_if_ne (tgt := 365) X.1 X.2.1 dX7_read_358 rfl (fun hc9 => ?_) (fun hc9 => ?_)
  · have hw := hw.1 hc9
    refine lv_aload_n X.1 X.2.1 dX7_read_365 rfl (lv_at hl 0 rfl) ?_
    refine rf_text X hK hO dX7_read_366 ?_
    refine lv_bipush (v := 13) X.1 X.2.1 dX7_read_369 (by decide) ?_
    refine lv_aload_n X.1 X.2.1 dX7_read_371 rfl (lv_at hl 0 rfl) ?_
    refine rf_now X hK hO dX7_read_372 ?_
    refine lv_imul X.1 X.2.1 dX7_read_375 ?_
    refine lv_aload_n X.1 X.2.1 dX7_read_376 rfl (lv_at hl 0 rfl) ?_
    refine rf_box X hK hO dX7_read_377 ?_
    refine lv_aload_n X.1 X.2.1 dX7_read_380 rfl (lv_at hl 0 rfl) ?_
    refine rf_now X hK hO dX7_read_381 ?_
    obtain ⟨g384, hw⟩ := hw
    refine ra_box X.1 X.2.1 hK hO g384 dX7_read_384 ?_
    refine lv_iadd X.1 X.2.1 dX7_read_385 ?_
    obtain ⟨g386, hw⟩ := hw
    refine ra_text X.1 X.2.1 hK hO g386 dX7_read_386 ?_
    exact rB_read_387 X hr hlk hR hK hA (t340.2 8 (((13 : Int32) * (t340.1 18)) + (t340.2 12 (t340.1 18).toNatClampNeg)).toNatClampNeg) (t340.1 18) t340 H locs ls (lv_sub hl [0] rfl) hO hw
  · have hw := hw.2 hc9
    refine lv_iconst (v := -1) X.1 X.2.1 dX7_read_361 (by decide) ?_
    refine lv_goto (tgt := 387) X.1 X.2.1 dX7_read_362 rfl ?_
    exact rB_read_387 X hr hlk hR hK hA (-1 : Int32) (t340.1 18) t340 H locs ls (lv_sub hl [0] rfl) hO hw
def R_read_b257 (Q : Int32 → rS → Prop) (K182 : Int32 → rS → Prop) (x1 : Int32) (σ : rS) : Prop :=
 ∀ v257 : Int32, v257 = x1 + (1 : Int32) → K182 v257 σ
set_option maxHeartbeats 4000000 in
set_option maxRecDepth 100000 in
theorem rB_read_257 {Q : Int32 → rS → Prop} {K182 : Int32 → rS → Prop} (X : CallFix p m c cX7_read 2 s args wsX7_read RX7) (hr : meth.sig.returnType = (some .int)) (hlk : meth.locks = false) (hR : 6 ≤ R.frames ∧ 142 ≤ R.locals) (hK : va_K (dC, dI) vwCl [(cI, .int), (cZ, .boolean)] s) (hA : ∀ q, s.heap.size ≤ q → A q) (k182 : ∀ (x1 : Int32) (σ : rS) (H : Heap) (locs : List Loc) (ls : Array Slot), lv_has ls 2 [(0, .ref h), (1, .int x1)] → rO dC dI h a cI cZ A s.heap σ H locs → K182 x1 σ → W p l e R s m args below meth c H locs 0 0 (MQ below (va_Qi Q (rAt dC dI A h a cI cZ) A) args s 0 0 A) (F0 m 182 ls [])) (x1 : Int32) (σ : rS) (H : Heap) (locs : List Loc) (ls : Array Slot) (hl : lv_has ls 2 [(0, .ref h), (1, .int x1)]) (hO : rO dC dI h a cI cZ A s.heap σ H locs) (hw : R_read_b257 Q K182 x1 σ) : W p l e R s m args below meth c H locs 0 0 (MQ below (va_Qi Q (rAt dC dI A h a cI cZ) A) args s 0 0 A) (F0 m 257 ls []) := by
  unfold R_read_b257 at hw
  obtain ⟨v257, e257⟩ : ∃ z, z = x1 + (1 : Int32) := ⟨_, rfl⟩
  have hw := hw v257 e257
  refine lv_iinc (lv' := [(1, .int v257), (0, .ref h)]) (k := 1) (v := v257) X.1 X.2.1 dX7_read_257 hl rfl (by rw [e257]; rfl) (by decide) rfl (fun ls hl => ?_)
  refine lv_goto (tgt := 182) X.1 X.2.1 dX7_read_260 rfl ?_
  exact k182 v257 σ H locs ls (lv_sub hl [1, 0] rfl) hO hw
def R_read_b182_s (Q : Int32 → rS → Prop) (K182 : Int32 → rS → Prop) (x1 : Int32) (σ : rS) : Prop :=
 ((σ.1 22) < x1 → vp_in (σ.1 18) 16 ∧ vp_in (((13 : Int32) * (σ.1 18)) + (σ.2 10 (σ.1 18).toNatClampNeg)) 208 ∧ vp_in (σ.1 18) 16 ∧ ∀ t293 : rS, t293 = rA σ 10 (σ.1 18) (σ.2 8 (((13 : Int32) * (σ.1 18)) + (σ.2 10 (σ.1 18).toNatClampNeg)).toNatClampNeg) → vp_in (t293.1 18) 16 ∧ (¬ (t293.2 11 (t293.1 18).toNatClampNeg) = 0 → vp_in (t293.1 18) 16 ∧ vp_in (((13 : Int32) * (t293.1 18)) + (t293.2 11 (t293.1 18).toNatClampNeg)) 208 ∧ R_read_b340 Q (t293.2 8 (((13 : Int32) * (t293.1 18)) + (t293.2 11 (t293.1 18).toNatClampNeg)).toNatClampNeg) (t293.1 18) t293) ∧ ((t293.2 11 (t293.1 18).toNatClampNeg) = 0 → R_read_b340 Q (-1 : Int32) (t293.1 18) t293)) ∧ (¬ (σ.1 22) < x1 → vp_in (((13 : Int32) * (σ.1 18)) + x1) 208 ∧ (¬ (σ.2 6 (((13 : Int32) * (σ.1 18)) + x1).toNatClampNeg) = (7 : Int32) → R_read_b257 Q K182 x1 σ) ∧ ((σ.2 6 (((13 : Int32) * (σ.1 18)) + x1).toNatClampNeg) = (7 : Int32) → vp_in (((13 : Int32) * (σ.1 18)) + x1) 208 ∧ vp_in ((σ.2 7 (((13 : Int32) * (σ.1 18)) + x1).toNatClampNeg) + (1 : Int32)) 1920 ∧ vp_in (((13 : Int32) * (σ.1 18)) + (σ.2 2 ((σ.2 7 (((13 : Int32) * (σ.1 18)) + x1).toNatClampNeg) + (1 : Int32)).toNatClampNeg)) 208 ∧ vp_in (((13 : Int32) * (σ.1 18)) + x1) 208 ∧ ∀ t256 : rS, t256 = rA σ 8 (((13 : Int32) * (σ.1 18)) + x1) (σ.2 8 (((13 : Int32) * (σ.1 18)) + (σ.2 2 ((σ.2 7 (((13 : Int32) * (σ.1 18)) + x1).toNatClampNeg) + (1 : Int32)).toNatClampNeg)).toNatClampNeg) → R_read_b257 Q K182 x1 t256))
def R_read_b182_f (Q : Int32 → rS → Prop) : (Int32 × rS → Prop) → Int32 × rS → Prop :=
 fun K z => R_read_b182_s Q (fun x1 σ => K (x1, σ)) z.1 z.2
def R_read_b182 (Q : Int32 → rS → Prop) (x1 : Int32) (σ : rS) : Prop := ∃ n, fx (R_read_b182_f Q ) n (x1, σ)
set_option maxHeartbeats 4000000 in
set_option maxRecDepth 100000 in
theorem rB_read_182 {Q : Int32 → rS → Prop} (X : CallFix p m c cX7_read 2 s args wsX7_read RX7) (hr : meth.sig.returnType = (some .int)) (hlk : meth.locks = false) (hR : 6 ≤ R.frames ∧ 142 ≤ R.locals) (hK : va_K (dC, dI) vwCl [(cI, .int), (cZ, .boolean)] s) (hA : ∀ q, s.heap.size ≤ q → A q) : ∀ (n : Nat) (x1 : Int32) (σ : rS) (H : Heap) (locs : List Loc) (ls : Array Slot), lv_has ls 2 [(0, .ref h), (1, .int x1)] → rO dC dI h a cI cZ A s.heap σ H locs → fx (R_read_b182_f Q ) n (x1, σ) → W p l e R s m args below meth c H locs 0 0 (MQ below (va_Qi Q (rAt dC dI A h a cI cZ) A) args s 0 0 A) (F0 m 182 ls []) := by
  intro n
  induction n with
  | zero => intro x1 σ H locs ls hl hO hw; exact False.elim hw
  | succ n k182 =>
    intro x1 σ H locs ls hl hO hw
    have hw : R_read_b182_s Q (fun x1 σ => fx (R_read_b182_f Q ) n (x1, σ)) x1 σ := hw
    unfold R_read_b182_s at hw
    refine lv_iload_n X.1 X.2.1 dX7_read_182 rfl (lv_at hl 1 rfl) ?_
    refine lv_aload_n X.1 X.2.1 dX7_read_183 rfl (lv_at hl 0 rfl) ?_
    refine rf_constants X hK hO dX7_read_184 ?_
    refine lv_icmp_gt (tgt := 263) X.1 X.2.1 dX7_read_187 rfl (fun hc9 => ?_) (fun hc9 => ?_)
    · have hw := hw.1 hc9
      refine lv_aload_n X.1 X.2.1 dX7_read_263 rfl (lv_at hl 0 rfl) ?_
      refine rf_self X hK hO dX7_read_264 ?_
      refine lv_aload_n X.1 X.2.1 dX7_read_267 rfl (lv_at hl 0 rfl) ?_
      refine rf_now X hK hO dX7_read_268 ?_
      refine lv_aload_n X.1 X.2.1 dX7_read_271 rfl (lv_at hl 0 rfl) ?_
      refine rf_text X hK hO dX7_read_272 ?_
      refine lv_bipush (v := 13) X.1 X.2.1 dX7_read_275 (by decide) ?_
      refine lv_aload_n X.1 X.2.1 dX7_read_277 rfl (lv_at hl 0 rfl) ?_
      refine rf_now X hK hO dX7_read_278 ?_
      refine lv_imul X.1 X.2.1 dX7_read_281 ?_
      refine lv_aload_n X.1 X.2.1 dX7_read_282 rfl (lv_at hl 0 rfl) ?_
      refine rf_self X hK hO dX7_read_283 ?_
      refine lv_aload_n X.1 X.2.1 dX7_read_286 rfl (lv_at hl 0 rfl) ?_
      refine rf_now X hK hO dX7_read_287 ?_
      obtain ⟨g290, hw⟩ := hw
      refine ra_self X.1 X.2.1 hK hO g290 dX7_read_290 ?_
      refine lv_iadd X.1 X.2.1 dX7_read_291 ?_
      obtain ⟨g292, hw⟩ := hw
      refine ra_text X.1 X.2.1 hK hO g292 dX7_read_292 ?_
      obtain ⟨g293, hw⟩ := hw
      refine rs_self X.1 X.2.1 hK hO g293 dX7_read_293 (fun H locs hO => ?_)
      obtain ⟨t293, e293⟩ : ∃ z, z = rA σ 10 (σ.1 18) (σ.2 8 (((13 : Int32) * (σ.1 18)) + (σ.2 10 (σ.1 18).toNatClampNeg)).toNatClampNeg) := ⟨_, rfl⟩
      have hw := hw t293 e293
      rw [← e293] at hO
      refine lv_aload_n X.1 X.2.1 dX7_read_294 rfl (lv_at hl 0 rfl) ?_
      refine rf_above X hK hO dX7_read_295 ?_
      refine lv_aload_n X.1 X.2.1 dX7_read_298 rfl (lv_at hl 0 rfl) ?_
      refine rf_now X hK hO dX7_read_299 ?_
      refine lv_aload_n X.1 X.2.1 dX7_read_302 rfl (lv_at hl 0 rfl) ?_
      refine rf_above X hK hO dX7_read_303 ?_
      refine lv_aload_n X.1 X.2.1 dX7_read_306 rfl (lv_at hl 0 rfl) ?_
      refine rf_now X hK hO dX7_read_307 ?_
      obtain ⟨g310, hw⟩ := hw
      refine ra_above X.1 X.2.1 hK hO g310 dX7_read_310 ?_
      refine lv_if_ne (tgt := 318) X.1 X.2.1 dX7_read_311 rfl (fun hc9 => ?_) (fun hc9 => ?_)
      · have hw := hw.1 hc9
        refine lv_aload_n X.1 X.2.1 dX7_read_318 rfl (lv_at hl 0 rfl) ?_
        refine rf_text X hK hO dX7_read_319 ?_
        refine lv_bipush (v := 13) X.1 X.2.1 dX7_read_322 (by decide) ?_
        refine lv_aload_n X.1 X.2.1 dX7_read_324 rfl (lv_at hl 0 rfl) ?_
        refine rf_now X hK hO dX7_read_325 ?_
        refine lv_imul X.1 X.2.1 dX7_read_328 ?_
        refine lv_aload_n X.1 X.2.1 dX7_read_329 rfl (lv_at hl 0 rfl) ?_
        refine rf_above X hK hO dX7_read_330 ?_
        refine lv_aload_n X.1 X.2.1 dX7_read_333 rfl (lv_at hl 0 rfl) ?_
        refine rf_now X hK hO dX7_read_334 ?_
        obtain ⟨g337, hw⟩ := hw
        refine ra_above X.1 X.2.1 hK hO g337 dX7_read_337 ?_
        refine lv_iadd X.1 X.2.1 dX7_read_338 ?_
        obtain ⟨g339, hw⟩ := hw
        refine ra_text X.1 X.2.1 hK hO g339 dX7_read_339 ?_
        exact rB_read_340 X hr hlk hR hK hA (t293.2 8 (((13 : Int32) * (t293.1 18)) + (t293.2 11 (t293.1 18).toNatClampNeg)).toNatClampNeg) (t293.1 18) t293 H locs ls (lv_sub hl [0] rfl) hO hw
      · have hw := hw.2 hc9
        refine lv_iconst (v := -1) X.1 X.2.1 dX7_read_314 (by decide) ?_
        refine lv_goto (tgt := 340) X.1 X.2.1 dX7_read_315 rfl ?_
        exact rB_read_340 X hr hlk hR hK hA (-1 : Int32) (t293.1 18) t293 H locs ls (lv_sub hl [0] rfl) hO hw
    · have hw := hw.2 hc9
      refine lv_aload_n X.1 X.2.1 dX7_read_190 rfl (lv_at hl 0 rfl) ?_
      refine rf_sort X hK hO dX7_read_191 ?_
      refine lv_bipush (v := 13) X.1 X.2.1 dX7_read_194 (by decide) ?_
      refine lv_aload_n X.1 X.2.1 dX7_read_196 rfl (lv_at hl 0 rfl) ?_
      refine rf_now X hK hO dX7_read_197 ?_
      refine lv_imul X.1 X.2.1 dX7_read_200 ?_
      refine lv_iload_n X.1 X.2.1 dX7_read_201 rfl (lv_at hl 1 rfl) ?_
      refine lv_iadd X.1 X.2.1 dX7_read_202 ?_
      obtain ⟨g203, hw⟩ := hw
      refine ra_sort X.1 X.2.1 hK hO g203 dX7_read_203 ?_
      refine lv_bipush (v := 7) X.1 X.2.1 dX7_read_204 (by decide) ?_
      refine lv_icmp_ne (tgt := 257) X.1 X.2.1 dX7_read_206 rfl (fun hc9 => ?_) (fun hc9 => ?_)
      · have hw := hw.1 hc9
        exact rB_read_257 X hr hlk hR hK hA k182 x1 σ H locs ls (lv_sub hl [0, 1] rfl) hO hw
      · have hw := hw.2 hc9
        refine lv_aload_n X.1 X.2.1 dX7_read_209 rfl (lv_at hl 0 rfl) ?_
        refine rf_text X hK hO dX7_read_210 ?_
        refine lv_bipush (v := 13) X.1 X.2.1 dX7_read_213 (by decide) ?_
        refine lv_aload_n X.1 X.2.1 dX7_read_215 rfl (lv_at hl 0 rfl) ?_
        refine rf_now X hK hO dX7_read_216 ?_
        refine lv_imul X.1 X.2.1 dX7_read_219 ?_
        refine lv_iload_n X.1 X.2.1 dX7_read_220 rfl (lv_at hl 1 rfl) ?_
        refine lv_iadd X.1 X.2.1 dX7_read_221 ?_
        refine lv_aload_n X.1 X.2.1 dX7_read_222 rfl (lv_at hl 0 rfl) ?_
        refine rf_text X hK hO dX7_read_223 ?_
        refine lv_bipush (v := 13) X.1 X.2.1 dX7_read_226 (by decide) ?_
        refine lv_aload_n X.1 X.2.1 dX7_read_228 rfl (lv_at hl 0 rfl) ?_
        refine rf_now X hK hO dX7_read_229 ?_
        refine lv_imul X.1 X.2.1 dX7_read_232 ?_
        refine lv_aload_n X.1 X.2.1 dX7_read_233 rfl (lv_at hl 0 rfl) ?_
        refine rf_bytes X hK hO dX7_read_234 ?_
        refine lv_aload_n X.1 X.2.1 dX7_read_237 rfl (lv_at hl 0 rfl) ?_
        refine rf_place X hK hO dX7_read_238 ?_
        refine lv_bipush (v := 13) X.1 X.2.1 dX7_read_241 (by decide) ?_
        refine lv_aload_n X.1 X.2.1 dX7_read_243 rfl (lv_at hl 0 rfl) ?_
        refine rf_now X hK hO dX7_read_244 ?_
        refine lv_imul X.1 X.2.1 dX7_read_247 ?_
        refine lv_iload_n X.1 X.2.1 dX7_read_248 rfl (lv_at hl 1 rfl) ?_
        refine lv_iadd X.1 X.2.1 dX7_read_249 ?_
        obtain ⟨g250, hw⟩ := hw
        refine ra_place X.1 X.2.1 hK hO g250 dX7_read_250 ?_
        refine lv_iconst (v := 1) X.1 X.2.1 dX7_read_251 (by decide) ?_
        refine lv_iadd X.1 X.2.1 dX7_read_252 ?_
        obtain ⟨g253, hw⟩ := hw
        refine ra_bytes X.1 X.2.1 hK hO g253 dX7_read_253 ?_
        refine lv_iadd X.1 X.2.1 dX7_read_254 ?_
        obtain ⟨g255, hw⟩ := hw
        refine ra_text X.1 X.2.1 hK hO g255 dX7_read_255 ?_
        obtain ⟨g256, hw⟩ := hw
        refine rs_text X.1 X.2.1 hK hO g256 dX7_read_256 (fun H locs hO => ?_)
        obtain ⟨t256, e256⟩ : ∃ z, z = rA σ 8 (((13 : Int32) * (σ.1 18)) + x1) (σ.2 8 (((13 : Int32) * (σ.1 18)) + (σ.2 2 ((σ.2 7 (((13 : Int32) * (σ.1 18)) + x1).toNatClampNeg) + (1 : Int32)).toNatClampNeg)).toNatClampNeg) := ⟨_, rfl⟩
        have hw := hw t256 e256
        rw [← e256] at hO
        exact rB_read_257 X hr hlk hR hK hA k182 x1 t256 H locs ls (lv_sub hl [0, 1] rfl) hO hw
def R_read_b174 (Q : Int32 → rS → Prop) (K114 : Int32 → rS → Prop) (x1 : Int32) (σ : rS) : Prop :=
 ∀ v174 : Int32, v174 = x1 + (1 : Int32) → K114 v174 σ
set_option maxHeartbeats 4000000 in
set_option maxRecDepth 100000 in
theorem rB_read_174 {Q : Int32 → rS → Prop} {K114 : Int32 → rS → Prop} (X : CallFix p m c cX7_read 2 s args wsX7_read RX7) (hr : meth.sig.returnType = (some .int)) (hlk : meth.locks = false) (hR : 6 ≤ R.frames ∧ 142 ≤ R.locals) (hK : va_K (dC, dI) vwCl [(cI, .int), (cZ, .boolean)] s) (hA : ∀ q, s.heap.size ≤ q → A q) (k114 : ∀ (x1 : Int32) (σ : rS) (H : Heap) (locs : List Loc) (ls : Array Slot), lv_has ls 2 [(0, .ref h), (1, .int x1)] → rO dC dI h a cI cZ A s.heap σ H locs → K114 x1 σ → W p l e R s m args below meth c H locs 0 0 (MQ below (va_Qi Q (rAt dC dI A h a cI cZ) A) args s 0 0 A) (F0 m 114 ls [])) (x1 : Int32) (σ : rS) (H : Heap) (locs : List Loc) (ls : Array Slot) (hl : lv_has ls 2 [(0, .ref h), (1, .int x1)]) (hO : rO dC dI h a cI cZ A s.heap σ H locs) (hw : R_read_b174 Q K114 x1 σ) : W p l e R s m args below meth c H locs 0 0 (MQ below (va_Qi Q (rAt dC dI A h a cI cZ) A) args s 0 0 A) (F0 m 174 ls []) := by
  unfold R_read_b174 at hw
  obtain ⟨v174, e174⟩ : ∃ z, z = x1 + (1 : Int32) := ⟨_, rfl⟩
  have hw := hw v174 e174
  refine lv_iinc (lv' := [(1, .int v174), (0, .ref h)]) (k := 1) (v := v174) X.1 X.2.1 dX7_read_174 hl rfl (by rw [e174]; rfl) (by decide) rfl (fun ls hl => ?_)
  refine lv_goto (tgt := 114) X.1 X.2.1 dX7_read_177 rfl ?_
  exact k114 v174 σ H locs ls (lv_sub hl [1, 0] rfl) hO hw
def R_read_b114_s (Q : Int32 → rS → Prop) (K114 : Int32 → rS → Prop) (x1 : Int32) (σ : rS) : Prop :=
 ((σ.1 22) < x1 → R_read_b182 Q (1 : Int32) σ) ∧ (¬ (σ.1 22) < x1 → vp_in (((13 : Int32) * (σ.1 18)) + x1) 208 ∧ (¬ (σ.2 6 (((13 : Int32) * (σ.1 18)) + x1).toNatClampNeg) = (1 : Int32) → R_read_b174 Q K114 x1 σ) ∧ ((σ.2 6 (((13 : Int32) * (σ.1 18)) + x1).toNatClampNeg) = (1 : Int32) → vp_in (((13 : Int32) * (σ.1 18)) + x1) 208 ∧ R_number_w (fun r170 t170 => vp_in (((13 : Int32) * (σ.1 18)) + x1) 208 ∧ ∀ t173 : rS, t173 = rA t170 8 (((13 : Int32) * (σ.1 18)) + x1) r170 → R_read_b174 Q K114 x1 t173) ((σ.2 7 (((13 : Int32) * (σ.1 18)) + x1).toNatClampNeg) + (1 : Int32)) σ))
def R_read_b114_f (Q : Int32 → rS → Prop) : (Int32 × rS → Prop) → Int32 × rS → Prop :=
 fun K z => R_read_b114_s Q (fun x1 σ => K (x1, σ)) z.1 z.2
def R_read_b114 (Q : Int32 → rS → Prop) (x1 : Int32) (σ : rS) : Prop := ∃ n, fx (R_read_b114_f Q ) n (x1, σ)
set_option maxHeartbeats 4000000 in
set_option maxRecDepth 100000 in
theorem rB_read_114 {Q : Int32 → rS → Prop} (X : CallFix p m c cX7_read 2 s args wsX7_read RX7) (hr : meth.sig.returnType = (some .int)) (hlk : meth.locks = false) (hR : 6 ≤ R.frames ∧ 142 ≤ R.locals) (hK : va_K (dC, dI) vwCl [(cI, .int), (cZ, .boolean)] s) (hA : ∀ q, s.heap.size ≤ q → A q) : ∀ (n : Nat) (x1 : Int32) (σ : rS) (H : Heap) (locs : List Loc) (ls : Array Slot), lv_has ls 2 [(0, .ref h), (1, .int x1)] → rO dC dI h a cI cZ A s.heap σ H locs → fx (R_read_b114_f Q ) n (x1, σ) → W p l e R s m args below meth c H locs 0 0 (MQ below (va_Qi Q (rAt dC dI A h a cI cZ) A) args s 0 0 A) (F0 m 114 ls []) := by
  intro n
  induction n with
  | zero => intro x1 σ H locs ls hl hO hw; exact False.elim hw
  | succ n k114 =>
    intro x1 σ H locs ls hl hO hw
    have hw : R_read_b114_s Q (fun x1 σ => fx (R_read_b114_f Q ) n (x1, σ)) x1 σ := hw
    unfold R_read_b114_s at hw
    refine lv_iload_n X.1 X.2.1 dX7_read_114 rfl (lv_at hl 1 rfl) ?_
    refine lv_aload_n X.1 X.2.1 dX7_read_115 rfl (lv_at hl 0 rfl) ?_
    refine rf_constants X hK hO dX7_read_116 ?_
    refine lv_icmp_gt (tgt := 180) X.1 X.2.1 dX7_read_119 rfl (fun hc9 => ?_) (fun hc9 => ?_)
    · have hw := hw.1 hc9
      refine lv_iconst (v := 1) X.1 X.2.1 dX7_read_180 (by decide) ?_
      refine lv_istore_n (lv' := [(1, .int (1 : Int32)), (0, .ref h)]) X.1 X.2.1 dX7_read_181 rfl hl (by decide) rfl (fun ls hl => ?_)
      obtain ⟨n, hw⟩ := hw
      exact rB_read_182 X hr hlk hR hK hA n (1 : Int32) σ H locs ls (lv_sub hl [1, 0] rfl) hO hw
    · have hw := hw.2 hc9
      refine lv_aload_n X.1 X.2.1 dX7_read_122 rfl (lv_at hl 0 rfl) ?_
      refine rf_sort X hK hO dX7_read_123 ?_
      refine lv_bipush (v := 13) X.1 X.2.1 dX7_read_126 (by decide) ?_
      refine lv_aload_n X.1 X.2.1 dX7_read_128 rfl (lv_at hl 0 rfl) ?_
      refine rf_now X hK hO dX7_read_129 ?_
      refine lv_imul X.1 X.2.1 dX7_read_132 ?_
      refine lv_iload_n X.1 X.2.1 dX7_read_133 rfl (lv_at hl 1 rfl) ?_
      refine lv_iadd X.1 X.2.1 dX7_read_134 ?_
      obtain ⟨g135, hw⟩ := hw
      refine ra_sort X.1 X.2.1 hK hO g135 dX7_read_135 ?_
      refine lv_iconst (v := 1) X.1 X.2.1 dX7_read_136 (by decide) ?_
      refine lv_icmp_ne (tgt := 174) X.1 X.2.1 dX7_read_137 rfl (fun hc9 => ?_) (fun hc9 => ?_)
      · have hw := hw.1 hc9
        exact rB_read_174 X hr hlk hR hK hA k114 x1 σ H locs ls (lv_sub hl [0, 1] rfl) hO hw
      · have hw := hw.2 hc9
        refine lv_aload_n X.1 X.2.1 dX7_read_140 rfl (lv_at hl 0 rfl) ?_
        refine rf_text X hK hO dX7_read_141 ?_
        refine lv_bipush (v := 13) X.1 X.2.1 dX7_read_144 (by decide) ?_
        refine lv_aload_n X.1 X.2.1 dX7_read_146 rfl (lv_at hl 0 rfl) ?_
        refine rf_now X hK hO dX7_read_147 ?_
        refine lv_imul X.1 X.2.1 dX7_read_150 ?_
        refine lv_iload_n X.1 X.2.1 dX7_read_151 rfl (lv_at hl 1 rfl) ?_
        refine lv_iadd X.1 X.2.1 dX7_read_152 ?_
        refine lv_aload_n X.1 X.2.1 dX7_read_153 rfl (lv_at hl 0 rfl) ?_
        refine lv_aload_n X.1 X.2.1 dX7_read_154 rfl (lv_at hl 0 rfl) ?_
        refine rf_place X hK hO dX7_read_155 ?_
        refine lv_bipush (v := 13) X.1 X.2.1 dX7_read_158 (by decide) ?_
        refine lv_aload_n X.1 X.2.1 dX7_read_160 rfl (lv_at hl 0 rfl) ?_
        refine rf_now X hK hO dX7_read_161 ?_
        refine lv_imul X.1 X.2.1 dX7_read_164 ?_
        refine lv_iload_n X.1 X.2.1 dX7_read_165 rfl (lv_at hl 1 rfl) ?_
        refine lv_iadd X.1 X.2.1 dX7_read_166 ?_
        obtain ⟨g167, hw⟩ := hw
        refine ra_place X.1 X.2.1 hK hO g167 dX7_read_167 ?_
        refine lv_iconst (v := 1) X.1 X.2.1 dX7_read_168 (by decide) ?_
        refine lv_iadd X.1 X.2.1 dX7_read_169 ?_
        refine r_calli (rest := [.int (((13 : Int32) * (σ.1 18)) + x1), .ref (a 8)]) (As := [.int ((σ.2 7 (((13 : Int32) * (σ.1 18)) + x1).toNatClampNeg) + (1 : Int32))]) X (rC_number l dC dI h a cI cZ σ H.size ((σ.2 7 (((13 : Int32) * (σ.1 18)) + x1).toNatClampNeg) + (1 : Int32)) _ hw) (cwV 1 X.2.2.2.2 gX7_number rfl rfl rfl hdX7_number ⟨Nat.le_trans (by decide) hR.1, Nat.le_trans (by decide) hR.2⟩) hK hA hO rfl hl.1 rfl (Nat.le_of_ble_eq_true rfl) dX7_read_170 (fun r170 t170 H locs hO hw => ?_)
        obtain ⟨g173, hw⟩ := hw
        refine rs_text X.1 X.2.1 hK hO g173 dX7_read_173 (fun H locs hO => ?_)
        obtain ⟨t173, e173⟩ : ∃ z, z = rA t170 8 (((13 : Int32) * (σ.1 18)) + x1) r170 := ⟨_, rfl⟩
        have hw := hw t173 e173
        rw [← e173] at hO
        exact rB_read_174 X hr hlk hR hK hA k114 x1 t173 H locs ls (lv_sub hl [0, 1] rfl) hO hw
def R_read_b50_s (Q : Int32 → rS → Prop) (K50 : Int32 → rS → Prop) (x1 : Int32) (σ : rS) : Prop :=
 ((σ.1 1) ≤ x1 → ∀ t83 : rS, t83 = rI σ 1 (0 : Int32) → R_wholeFile_w (fun t87 => ((t87.1 23) = 0 → R_read_b114 Q (1 : Int32) t87) ∧ (¬ (t87.1 23) = 0 → Q (-(((1000 : Int32) * (t87.1 23)) + (t87.1 24))) t87)) t83) ∧ (¬ (σ.1 1) ≤ x1 → vp_in x1 120 ∧ vp_in ((σ.1 19) + x1) 1920 ∧ ∀ t74 : rS, t74 = rA σ 2 ((σ.1 19) + x1) (σ.2 0 x1.toNatClampNeg) → ∀ v75 : Int32, v75 = x1 + (1 : Int32) → K50 v75 t74)
def R_read_b50_f (Q : Int32 → rS → Prop) : (Int32 × rS → Prop) → Int32 × rS → Prop :=
 fun K z => R_read_b50_s Q (fun x1 σ => K (x1, σ)) z.1 z.2
def R_read_b50 (Q : Int32 → rS → Prop) (x1 : Int32) (σ : rS) : Prop := ∃ n, fx (R_read_b50_f Q ) n (x1, σ)
set_option maxHeartbeats 4000000 in
set_option maxRecDepth 100000 in
theorem rB_read_50 {Q : Int32 → rS → Prop} (X : CallFix p m c cX7_read 2 s args wsX7_read RX7) (hr : meth.sig.returnType = (some .int)) (hlk : meth.locks = false) (hR : 6 ≤ R.frames ∧ 142 ≤ R.locals) (hK : va_K (dC, dI) vwCl [(cI, .int), (cZ, .boolean)] s) (hA : ∀ q, s.heap.size ≤ q → A q) : ∀ (n : Nat) (x1 : Int32) (σ : rS) (H : Heap) (locs : List Loc) (ls : Array Slot), lv_has ls 2 [(0, .ref h), (1, .int x1)] → rO dC dI h a cI cZ A s.heap σ H locs → fx (R_read_b50_f Q ) n (x1, σ) → W p l e R s m args below meth c H locs 0 0 (MQ below (va_Qi Q (rAt dC dI A h a cI cZ) A) args s 0 0 A) (F0 m 50 ls []) := by
  intro n
  induction n with
  | zero => intro x1 σ H locs ls hl hO hw; exact False.elim hw
  | succ n k50 =>
    intro x1 σ H locs ls hl hO hw
    have hw : R_read_b50_s Q (fun x1 σ => fx (R_read_b50_f Q ) n (x1, σ)) x1 σ := hw
    unfold R_read_b50_s at hw
    refine lv_iload_n X.1 X.2.1 dX7_read_50 rfl (lv_at hl 1 rfl) ?_
    refine lv_aload_n X.1 X.2.1 dX7_read_51 rfl (lv_at hl 0 rfl) ?_
    refine rf_held X hK hO dX7_read_52 ?_
    refine lv_icmp_ge (tgt := 81) X.1 X.2.1 dX7_read_55 rfl (fun hc9 => ?_) (fun hc9 => ?_)
    · have hw := hw.1 hc9
      refine lv_aload_n X.1 X.2.1 dX7_read_81 rfl (lv_at hl 0 rfl) ?_
      refine lv_iconst (v := 0) X.1 X.2.1 dX7_read_82 (by decide) ?_
      refine rp_held X hK hO dX7_read_83 (fun H locs hO => ?_)
      obtain ⟨t83, e83⟩ : ∃ z, z = rI σ 1 (0 : Int32) := ⟨_, rfl⟩
      have hw := hw t83 e83
      rw [← e83] at hO
      refine lv_aload_n X.1 X.2.1 dX7_read_86 rfl (lv_at hl 0 rfl) ?_
      refine r_callv (rest := []) (As := []) X (rC_wholeFile l dC dI h a cI cZ t83 H.size _ hw) (cwV 0 X.2.2.2.2 gX7_wholeFile rfl rfl rfl hdX7_wholeFile ⟨Nat.le_trans (by decide) hR.1, Nat.le_trans (by decide) hR.2⟩) hK hA hO rfl hl.1 rfl (Nat.le_of_ble_eq_true rfl) dX7_read_87 (fun t87 H locs hO hw => ?_)
      refine lv_aload_n X.1 X.2.1 dX7_read_90 rfl (lv_at hl 0 rfl) ?_
      refine rf_reason X hK hO dX7_read_91 ?_
      refine lv_if_eq (tgt := 112) X.1 X.2.1 dX7_read_94 rfl (fun hc9 => ?_) (fun hc9 => ?_)
      · have hw := hw.1 hc9
        refine lv_iconst (v := 1) X.1 X.2.1 dX7_read_112 (by decide) ?_
        refine lv_istore_n (lv' := [(1, .int (1 : Int32)), (0, .ref h)]) X.1 X.2.1 dX7_read_113 rfl hl (by decide) rfl (fun ls hl => ?_)
        obtain ⟨n, hw⟩ := hw
        exact rB_read_114 X hr hlk hR hK hA n (1 : Int32) t87 H locs ls (lv_sub hl [1, 0] rfl) hO hw
      · have hw := hw.2 hc9
        refine lv_sipush (v := 1000) X.1 X.2.1 dX7_read_97 (by decide) ?_
        refine lv_aload_n X.1 X.2.1 dX7_read_100 rfl (lv_at hl 0 rfl) ?_
        refine rf_reason X hK hO dX7_read_101 ?_
        refine lv_imul X.1 X.2.1 dX7_read_104 ?_
        refine lv_aload_n X.1 X.2.1 dX7_read_105 rfl (lv_at hl 0 rfl) ?_
        refine rf_spot X hK hO dX7_read_106 ?_
        refine lv_iadd X.1 X.2.1 dX7_read_109 ?_
        refine lv_ineg X.1 X.2.1 dX7_read_110 ?_
        exact W.iret (v := (-(((1000 : Int32) * (t87.1 23)) + (t87.1 24)))) X.1 X.2.1 hr (fun t ht hW => ⟨⟨(-(((1000 : Int32) * (t87.1 23)) + (t87.1 24))), t87, rfl, hw, rO_end hO hK ht hW⟩, hO.2.2.F ht⟩) hO.2.2.2.2 dX7_read_111 hlk
    · have hw := hw.2 hc9
      refine lv_aload_n X.1 X.2.1 dX7_read_58 rfl (lv_at hl 0 rfl) ?_
      refine rf_bytes X hK hO dX7_read_59 ?_
      refine lv_aload_n X.1 X.2.1 dX7_read_62 rfl (lv_at hl 0 rfl) ?_
      refine rf_base X hK hO dX7_read_63 ?_
      refine lv_iload_n X.1 X.2.1 dX7_read_66 rfl (lv_at hl 1 rfl) ?_
      refine lv_iadd X.1 X.2.1 dX7_read_67 ?_
      refine lv_aload_n X.1 X.2.1 dX7_read_68 rfl (lv_at hl 0 rfl) ?_
      refine rf_buffer X hK hO dX7_read_69 ?_
      refine lv_iload_n X.1 X.2.1 dX7_read_72 rfl (lv_at hl 1 rfl) ?_
      obtain ⟨g73, hw⟩ := hw
      refine ra_buffer X.1 X.2.1 hK hO g73 dX7_read_73 ?_
      obtain ⟨g74, hw⟩ := hw
      refine rs_bytes X.1 X.2.1 hK hO g74 dX7_read_74 (fun H locs hO => ?_)
      obtain ⟨t74, e74⟩ : ∃ z, z = rA σ 2 ((σ.1 19) + x1) (σ.2 0 x1.toNatClampNeg) := ⟨_, rfl⟩
      have hw := hw t74 e74
      rw [← e74] at hO
      obtain ⟨v75, e75⟩ : ∃ z, z = x1 + (1 : Int32) := ⟨_, rfl⟩
      have hw := hw v75 e75
      refine lv_iinc (lv' := [(1, .int v75), (0, .ref h)]) (k := 1) (v := v75) X.1 X.2.1 dX7_read_75 hl rfl (by rw [e75]; rfl) (by decide) rfl (fun ls hl => ?_)
      refine lv_goto (tgt := 50) X.1 X.2.1 dX7_read_78 rfl ?_
      exact k50 v75 t74 H locs ls (lv_sub hl [1, 0] rfl) hO hw
def R_read_b0 (Q : Int32 → rS → Prop) (σ : rS) : Prop :=
 (¬ (σ.1 3) = (16 : Int32) → ∀ t16 : rS, t16 = rI σ 18 (σ.1 3) → ∀ t27 : rS, t27 = rI t16 19 ((120 : Int32) * (t16.1 18)) → ∀ t35 : rS, t35 = rI t27 20 (t27.1 1) → ∀ t40 : rS, t40 = rI t35 21 (0 : Int32) → ∀ t45 : rS, t45 = rI t40 23 (0 : Int32) → R_read_b50 Q (0 : Int32) t45) ∧ ((σ.1 3) = (16 : Int32) → Q (-1 : Int32) σ)
set_option maxHeartbeats 4000000 in
set_option maxRecDepth 100000 in
theorem rB_read_0 {Q : Int32 → rS → Prop} (X : CallFix p m c cX7_read 2 s args wsX7_read RX7) (hr : meth.sig.returnType = (some .int)) (hlk : meth.locks = false) (hR : 6 ≤ R.frames ∧ 142 ≤ R.locals) (hK : va_K (dC, dI) vwCl [(cI, .int), (cZ, .boolean)] s) (hA : ∀ q, s.heap.size ≤ q → A q) (σ : rS) (H : Heap) (locs : List Loc) (ls : Array Slot) (hl : lv_has ls 2 [(0, .ref h)]) (hO : rO dC dI h a cI cZ A s.heap σ H locs) (hw : R_read_b0 Q σ) : W p l e R s m args below meth c H locs 0 0 (MQ below (va_Qi Q (rAt dC dI A h a cI cZ) A) args s 0 0 A) (F0 m 0 ls []) := by
  unfold R_read_b0 at hw
  refine lv_aload_n X.1 X.2.1 dX7_read_0 rfl (lv_at hl 0 rfl) ?_
  refine rf_classes X hK hO dX7_read_1 ?_
  refine lv_bipush (v := 16) X.1 X.2.1 dX7_read_4 (by decide) ?_
  refine lv_icmp_ne (tgt := 11) X.1 X.2.1 dX7_read_6 rfl (fun hc9 => ?_) (fun hc9 => ?_)
  · have hw := hw.1 hc9
    refine lv_aload_n X.1 X.2.1 dX7_read_11 rfl (lv_at hl 0 rfl) ?_
    refine lv_aload_n X.1 X.2.1 dX7_read_12 rfl (lv_at hl 0 rfl) ?_
    refine rf_classes X hK hO dX7_read_13 ?_
    refine rp_now X hK hO dX7_read_16 (fun H locs hO => ?_)
    obtain ⟨t16, e16⟩ : ∃ z, z = rI σ 18 (σ.1 3) := ⟨_, rfl⟩
    have hw := hw t16 e16
    rw [← e16] at hO
    refine lv_aload_n X.1 X.2.1 dX7_read_19 rfl (lv_at hl 0 rfl) ?_
    refine lv_bipush (v := 120) X.1 X.2.1 dX7_read_20 (by decide) ?_
    refine lv_aload_n X.1 X.2.1 dX7_read_22 rfl (lv_at hl 0 rfl) ?_
    refine rf_now X hK hO dX7_read_23 ?_
    refine lv_imul X.1 X.2.1 dX7_read_26 ?_
    refine rp_base X hK hO dX7_read_27 (fun H locs hO => ?_)
    obtain ⟨t27, e27⟩ : ∃ z, z = rI t16 19 ((120 : Int32) * (t16.1 18)) := ⟨_, rfl⟩
    have hw := hw t27 e27
    rw [← e27] at hO
    refine lv_aload_n X.1 X.2.1 dX7_read_30 rfl (lv_at hl 0 rfl) ?_
    refine lv_aload_n X.1 X.2.1 dX7_read_31 rfl (lv_at hl 0 rfl) ?_
    refine rf_held X hK hO dX7_read_32 ?_
    refine rp_end X hK hO dX7_read_35 (fun H locs hO => ?_)
    obtain ⟨t35, e35⟩ : ∃ z, z = rI t27 20 (t27.1 1) := ⟨_, rfl⟩
    have hw := hw t35 e35
    rw [← e35] at hO
    refine lv_aload_n X.1 X.2.1 dX7_read_38 rfl (lv_at hl 0 rfl) ?_
    refine lv_iconst (v := 0) X.1 X.2.1 dX7_read_39 (by decide) ?_
    refine rp_at X hK hO dX7_read_40 (fun H locs hO => ?_)
    obtain ⟨t40, e40⟩ : ∃ z, z = rI t35 21 (0 : Int32) := ⟨_, rfl⟩
    have hw := hw t40 e40
    rw [← e40] at hO
    refine lv_aload_n X.1 X.2.1 dX7_read_43 rfl (lv_at hl 0 rfl) ?_
    refine lv_iconst (v := 0) X.1 X.2.1 dX7_read_44 (by decide) ?_
    refine rp_reason X hK hO dX7_read_45 (fun H locs hO => ?_)
    obtain ⟨t45, e45⟩ : ∃ z, z = rI t40 23 (0 : Int32) := ⟨_, rfl⟩
    have hw := hw t45 e45
    rw [← e45] at hO
    refine lv_iconst (v := 0) X.1 X.2.1 dX7_read_48 (by decide) ?_
    refine lv_istore_n (lv' := [(1, .int (0 : Int32)), (0, .ref h)]) X.1 X.2.1 dX7_read_49 rfl hl (by decide) rfl (fun ls hl => ?_)
    obtain ⟨n, hw⟩ := hw
    exact rB_read_50 X hr hlk hR hK hA n (0 : Int32) t45 H locs ls (lv_sub hl [1, 0] rfl) hO hw
  · have hw := hw.2 hc9
    refine lv_iconst (v := -1) X.1 X.2.1 dX7_read_9 (by decide) ?_
    exact W.iret (v := (-1 : Int32)) X.1 X.2.1 hr (fun t ht hW => ⟨⟨(-1 : Int32), σ, rfl, hw, rO_end hO hK ht hW⟩, hO.2.2.F ht⟩) hO.2.2.2.2 dX7_read_10 hlk
def R_read_w (Q : Int32 → rS → Prop) (σ : rS) : Prop := R_read_b0 Q σ
abbrev rmX7_read : Room := { frames := 6, cells := 0, slots := 0, locals := 142 }
set_option maxHeartbeats 4000000 in
set_option maxRecDepth 100000 in
theorem rC_read (l : Launch) (dC : Nat → ClassId) (dI : Nat → Nat → Nat) (h : Nat) (a : Nat → Nat) (cI cZ : ClassId) (σ : rS) (sz : Nat) (Q : Int32 → rS → Prop) (hw : R_read_w Q σ) : Met l yX7_read wsX7_read rmX7_read (rPc dC dI h a cI cZ sz σ [.ref h]) (va_Qi Q (rAt dC dI (va_A (rCells h a cI cZ σ) sz) h a cI cZ) (va_A (rCells h a cI cZ σ) sz)) 0 0 (va_A (rCells h a cI cZ σ) sz) := by
  refine Met.ofW (cc := cX7_read) (maxL := 2) (ret := (some .int)) (by decide) rfl ?_
  intro p e s m args below meth c s₁ B hml hv
  obtain ⟨hargs, hsz, hP, hK, hD0⟩ := hv
  have hts := atoms_spec (ws := wsX7_read) B.pre
  have hown : s.vm.findClass RX7 = some m.cls := findClass_of_methodNamed B.named
  subst hsz
  subst hargs
  have hD := hD0.self (sz := s.heap.size)
  generalize hAe : va_A (rCells h a cI cZ σ) s.heap.size = A at hD ⊢
  have hA : ∀ q : Nat, s.heap.size ≤ q → A q := fun q h => by rw [← hAe]; exact Or.inr h
  have hl := lv_entry ([.ref h]) (n := 2) (Nat.le_of_ble_eq_true rfl)
  rw [lg_entry_eq]
  generalize (lg_sl ([.ref h]) ++ List.replicate (2 - (lg_sl ([.ref h])).length) Slot.unset).toArray = ls at hl ⊢
  have hl : lv_has ls 2 [(0, .ref h)] := hl
  unfold R_read_w at hw
  exact rB_read_0 ⟨B.exec, B.bytes, hml, hown, hts⟩ B.returns B.notSynchronized ⟨Nat.le_of_ble_eq_true rfl, Nat.le_of_ble_eq_true rfl⟩ hK hA σ s.heap [] ls (lv_sub hl [0] rfl) ⟨hP, hD, va_S.rf⟩ hw
end
