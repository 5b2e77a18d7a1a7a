section
variable {p : Program} {l : Launch} {e : Env} {R : Room} {s : State} {m : MethodId} {args : Array Value} {below : List Frame} {meth : Method} {c : Code}
variable {dC : Nat → ClassId} {dI : Nat → Nat → Nat} {b : Nat → Nat} {k : Nat → ClassId} {h : Nat} {a : Nat → Nat} {A : Nat → Prop} {sb L MC MS : Nat} {xs : Nat → Int32} {QF : State → Prop} {cw : Cond}
def L_law_b586 (b : Nat → Nat) (k : Nat → ClassId) (L : Nat) (xs : Nat → Int32) (MC MS : Nat) (Q : Prop) (K18 : Int32 → Nat → Nat → cS × rS → Prop) (x3 : Int32) (nc : Nat) (ns : Nat) (σ : cS × rS) : Prop :=
 ∀ v586 : Int32, v586 = x3 + (5 : Int32) → K18 v586 nc ns σ
set_option maxHeartbeats 4000000 in
set_option maxRecDepth 100000 in
theorem lB_law_586 {Q : Prop} {K18 : Int32 → Nat → Nat → cS × rS → Prop} (X : CallFix p m c code 4 s args (cw :: wG) RL) (hR : 27 ≤ R.frames ∧ 621 ≤ R.locals) (hK : cK dC dI k s) (hA : ∀ q, s.heap.size ≤ q → A q) (hsA : ¬ A sb) (hRc : R.cells = MC ∧ R.slots = MS) (hX : va_X sb L xs s s.heap) (hsb : sb < s.heap.size) (hE : ∀ (H : Heap) (locs : List Loc) (ls : Array Slot) (nc ns : Nat), nc ≤ MC → ns ≤ MS → va_S A s.heap H locs → W p l e R s m args below meth c H locs nc ns QF (F0 m 593 ls [.int 1])) (k18 : ∀ (x3 : Int32) (nc : Nat) (ns : Nat) (σ : cS × rS) (H : Heap) (locs : List Loc) (ls : Array Slot), lv_has ls 4 [(0, .ref sb), (1, .ref (b 0)), (2, .ref h), (3, .int x3)] → lO dC dI b k h a A s.heap σ H locs → (nc ≤ MC ∧ ns ≤ MS) → K18 x3 nc ns σ → W p l e R s m args below meth c H locs nc ns QF (F0 m 18 ls [])) (x3 : Int32) (nc : Nat) (ns : Nat) (σ : cS × rS) (H : Heap) (locs : List Loc) (ls : Array Slot) (hl : lv_has ls 4 [(0, .ref sb), (1, .ref (b 0)), (2, .ref h), (3, .int x3)]) (hO : lO dC dI b k h a A s.heap σ H locs) (hc : (nc ≤ MC ∧ ns ≤ MS)) (hw : L_law_b586 b k L xs MC MS Q K18 x3 nc ns σ) : W p l e R s m args below meth c H locs nc ns QF (F0 m 586 ls []) := by
  unfold L_law_b586 at hw
  obtain ⟨v586, e586⟩ : ∃ z, z = x3 + (5 : Int32) := ⟨_, rfl⟩
  have hw := hw v586 e586
  refine lv_iinc (lv' := [(3, .int v586), (0, .ref sb), (1, .ref (b 0)), (2, .ref h)]) (k := 3) (v := v586) X.1 X.2.1 dL_law_586 hl rfl (by rw [e586]; rfl) (by decide) rfl (fun ls hl => ?_)
  refine lv_goto (tgt := 18) X.1 X.2.1 dL_law_589 rfl ?_
  exact k18 v586 nc ns σ H locs ls (lv_sub hl [1, 2, 3, 0] rfl) hO hc hw
def L_law_b18_s (b : Nat → Nat) (k : Nat → ClassId) (L : Nat) (xs : Nat → Int32) (MC MS : Nat) (Q : Prop) (K18 : Int32 → Nat → Nat → cS × rS → Prop) (x3 : Int32) (nc : Nat) (ns : Nat) (σ : cS × rS) : Prop :=
 (((Int32.ofNat L) - (5 : Int32)) < x3 → True) ∧ (¬ ((Int32.ofNat L) - (5 : Int32)) < x3 → vp_in x3 L ∧ (((xs x3.toNatClampNeg) &&& (31 : Int32)) = 0 → vp_in (x3 + (1 : Int32)) L ∧ vp_in (x3 + (2 : Int32)) L ∧ vp_in (x3 + (3 : Int32)) L ∧ C_X6_put_w b k (fun r142 t142 => vp_in (x3 + (1 : Int32)) L ∧ vp_in (x3 + (2 : Int32)) L ∧ vp_in (x3 + (3 : Int32)) L ∧ R_put_w (fun r171 t171 => (r142 = r171 → L_law_b586 b k L xs MC MS Q K18 x3 nc ns ((t142, σ.2).1, t171)) ∧ (¬ r142 = r171 → False)) ((((xs (x3 + (1 : Int32)).toNatClampNeg).toInt64) <<< ((32 : Int32).toInt64 &&& 63)) ||| (((xs (x3 + (2 : Int32)).toNatClampNeg).toInt64) &&& (4294967295 : Int64))) (xs (x3 + (3 : Int32)).toNatClampNeg) (t142, σ.2).2) ((((xs (x3 + (1 : Int32)).toNatClampNeg).toInt64) <<< ((32 : Int32).toInt64 &&& 63)) ||| (((xs (x3 + (2 : Int32)).toNatClampNeg).toInt64) &&& (4294967295 : Int64))) (xs (x3 + (3 : Int32)).toNatClampNeg) σ.1) ∧ (¬ ((xs x3.toNatClampNeg) &&& (31 : Int32)) = 0 → (((xs x3.toNatClampNeg) &&& (31 : Int32)) = 1 → C_X6_drop_w b k (fun t180 => R_drop_w (fun t184 => L_law_b586 b k L xs MC MS Q K18 x3 nc ns ((t180, σ.2).1, t184)) (t180, σ.2).2) σ.1) ∧ (¬ ((xs x3.toNatClampNeg) &&& (31 : Int32)) = 1 → (((xs x3.toNatClampNeg) &&& (31 : Int32)) = 2 → C_X6_length_w b k (fun r191 t191 => R_length_w (fun r195 t195 => (r191 = r195 → L_law_b586 b k L xs MC MS Q K18 x3 nc ns ((t191, σ.2).1, t195)) ∧ (¬ r191 = r195 → False)) (t191, σ.2).2) σ.1) ∧ (¬ ((xs x3.toNatClampNeg) &&& (31 : Int32)) = 2 → (((xs x3.toNatClampNeg) &&& (31 : Int32)) = 3 → ∃ mc204 ms204 : Nat, nc + mc204 ≤ MC ∧ ns + ms204 ≤ MS ∧ C_X6_read_w b k mc204 ms204 (fun r204 t204 => R_read_w (fun r208 t208 => (r204 = r208 → L_law_b586 b k L xs MC MS Q K18 x3 (nc + mc204) (ns + ms204) ((t204, σ.2).1, t208)) ∧ (¬ r204 = r208 → False)) (t204, σ.2).2) σ.1) ∧ (¬ ((xs x3.toNatClampNeg) &&& (31 : Int32)) = 3 → (((xs x3.toNatClampNeg) &&& (31 : Int32)) = 4 → C_X6_classes_w b k (fun r217 t217 => R_classes_w (fun r221 t221 => (r217 = r221 → L_law_b586 b k L xs MC MS Q K18 x3 nc ns ((t217, σ.2).1, t221)) ∧ (¬ r217 = r221 → False)) (t217, σ.2).2) σ.1) ∧ (¬ ((xs x3.toNatClampNeg) &&& (31 : Int32)) = 4 → (((xs x3.toNatClampNeg) &&& (31 : Int32)) = 5 → C_X6_texts_w b k (fun r230 t230 => R_texts_w (fun r234 t234 => (r230 = r234 → L_law_b586 b k L xs MC MS Q K18 x3 nc ns ((t230, σ.2).1, t234)) ∧ (¬ r230 = r234 → False)) (t230, σ.2).2) σ.1) ∧ (¬ ((xs x3.toNatClampNeg) &&& (31 : Int32)) = 5 → (((xs x3.toNatClampNeg) &&& (31 : Int32)) = 6 → vp_in (x3 + (1 : Int32)) L ∧ vp_in (x3 + (2 : Int32)) L ∧ C_X6_letter_w b k (fun r253 t253 => vp_in (x3 + (1 : Int32)) L ∧ vp_in (x3 + (2 : Int32)) L ∧ R_letter_w (fun r267 t267 => (r253 = r267 → L_law_b586 b k L xs MC MS Q K18 x3 nc ns ((t253, σ.2).1, t267)) ∧ (¬ r253 = r267 → False)) (xs (x3 + (1 : Int32)).toNatClampNeg) (xs (x3 + (2 : Int32)).toNatClampNeg) (t253, σ.2).2) (xs (x3 + (1 : Int32)).toNatClampNeg) (xs (x3 + (2 : Int32)).toNatClampNeg) σ.1) ∧ (¬ ((xs x3.toNatClampNeg) &&& (31 : Int32)) = 6 → (((xs x3.toNatClampNeg) &&& (31 : Int32)) = 7 → vp_in (x3 + (1 : Int32)) L ∧ C_X6_find_w b k (fun r281 t281 => vp_in (x3 + (1 : Int32)) L ∧ R_find_w (fun r290 t290 => (r281 = r290 → L_law_b586 b k L xs MC MS Q K18 x3 nc ns ((t281, σ.2).1, t290)) ∧ (¬ r281 = r290 → False)) (xs (x3 + (1 : Int32)).toNatClampNeg) (t281, σ.2).2) (xs (x3 + (1 : Int32)).toNatClampNeg) σ.1) ∧ (¬ ((xs x3.toNatClampNeg) &&& (31 : Int32)) = 7 → (((xs x3.toNatClampNeg) &&& (31 : Int32)) = 8 → vp_in (x3 + (1 : Int32)) L ∧ C_X6_name_w b k (fun r304 t304 => vp_in (x3 + (1 : Int32)) L ∧ R_name_w (fun r313 t313 => (r304 = r313 → L_law_b586 b k L xs MC MS Q K18 x3 nc ns ((t304, σ.2).1, t313)) ∧ (¬ r304 = r313 → False)) (xs (x3 + (1 : Int32)).toNatClampNeg) (t304, σ.2).2) (xs (x3 + (1 : Int32)).toNatClampNeg) σ.1) ∧ (¬ ((xs x3.toNatClampNeg) &&& (31 : Int32)) = 8 → (((xs x3.toNatClampNeg) &&& (31 : Int32)) = 9 → vp_in (x3 + (1 : Int32)) L ∧ C_X6_flags_w b k (fun r327 t327 => vp_in (x3 + (1 : Int32)) L ∧ R_flags_w (fun r336 t336 => (r327 = r336 → L_law_b586 b k L xs MC MS Q K18 x3 nc ns ((t327, σ.2).1, t336)) ∧ (¬ r327 = r336 → False)) (xs (x3 + (1 : Int32)).toNatClampNeg) (t327, σ.2).2) (xs (x3 + (1 : Int32)).toNatClampNeg) σ.1) ∧ (¬ ((xs x3.toNatClampNeg) &&& (31 : Int32)) = 9 → (((xs x3.toNatClampNeg) &&& (31 : Int32)) = 10 → vp_in (x3 + (1 : Int32)) L ∧ C_X6_superName_w b k (fun r350 t350 => vp_in (x3 + (1 : Int32)) L ∧ R_superName_w (fun r359 t359 => (r350 = r359 → L_law_b586 b k L xs MC MS Q K18 x3 nc ns ((t350, σ.2).1, t359)) ∧ (¬ r350 = r359 → False)) (xs (x3 + (1 : Int32)).toNatClampNeg) (t350, σ.2).2) (xs (x3 + (1 : Int32)).toNatClampNeg) σ.1) ∧ (¬ ((xs x3.toNatClampNeg) &&& (31 : Int32)) = 10 → (((xs x3.toNatClampNeg) &&& (31 : Int32)) = 11 → vp_in (x3 + (1 : Int32)) L ∧ vp_in (x3 + (2 : Int32)) L ∧ C_X6_subtype_w b k (fun r378 t378 => vp_in (x3 + (1 : Int32)) L ∧ vp_in (x3 + (2 : Int32)) L ∧ R_subtype_w (fun r392 t392 => (r378 = r392 → L_law_b586 b k L xs MC MS Q K18 x3 nc ns ((t378, σ.2).1, t392)) ∧ (¬ r378 = r392 → False)) (xs (x3 + (1 : Int32)).toNatClampNeg) (xs (x3 + (2 : Int32)).toNatClampNeg) (t378, σ.2).2) (xs (x3 + (1 : Int32)).toNatClampNeg) (xs (x3 + (2 : Int32)).toNatClampNeg) σ.1) ∧ (¬ ((xs x3.toNatClampNeg) &&& (31 : Int32)) = 11 → (((xs x3.toNatClampNeg) &&& (31 : Int32)) = 12 → vp_in (x3 + (1 : Int32)) L ∧ vp_in (x3 + (2 : Int32)) L ∧ C_X6_subtypeAt_w b k (fun r411 t411 => vp_in (x3 + (1 : Int32)) L ∧ vp_in (x3 + (2 : Int32)) L ∧ R_subtypeAt_w (fun r425 t425 => (r411 = r425 → L_law_b586 b k L xs MC MS Q K18 x3 nc ns ((t411, σ.2).1, t425)) ∧ (¬ r411 = r425 → False)) (xs (x3 + (1 : Int32)).toNatClampNeg) (xs (x3 + (2 : Int32)).toNatClampNeg) (t411, σ.2).2) (xs (x3 + (1 : Int32)).toNatClampNeg) (xs (x3 + (2 : Int32)).toNatClampNeg) σ.1) ∧ (¬ ((xs x3.toNatClampNeg) &&& (31 : Int32)) = 12 → (((xs x3.toNatClampNeg) &&& (31 : Int32)) = 13 → vp_in (x3 + (1 : Int32)) L ∧ vp_in (x3 + (2 : Int32)) L ∧ C_X6_holder_w b k (fun r444 t444 => vp_in (x3 + (1 : Int32)) L ∧ vp_in (x3 + (2 : Int32)) L ∧ R_holder_w (fun r458 t458 => (r444 = r458 → L_law_b586 b k L xs MC MS Q K18 x3 nc ns ((t444, σ.2).1, t458)) ∧ (¬ r444 = r458 → False)) (xs (x3 + (1 : Int32)).toNatClampNeg) (xs (x3 + (2 : Int32)).toNatClampNeg) (t444, σ.2).2) (xs (x3 + (1 : Int32)).toNatClampNeg) (xs (x3 + (2 : Int32)).toNatClampNeg) σ.1) ∧ (¬ ((xs x3.toNatClampNeg) &&& (31 : Int32)) = 13 → (((xs x3.toNatClampNeg) &&& (31 : Int32)) = 14 → vp_in (x3 + (1 : Int32)) L ∧ vp_in (x3 + (2 : Int32)) L ∧ C_X6_count_w b k (fun r477 t477 => vp_in (x3 + (1 : Int32)) L ∧ vp_in (x3 + (2 : Int32)) L ∧ R_count_w (fun r491 t491 => (r477 = r491 → L_law_b586 b k L xs MC MS Q K18 x3 nc ns ((t477, σ.2).1, t491)) ∧ (¬ r477 = r491 → False)) (xs (x3 + (1 : Int32)).toNatClampNeg) (xs (x3 + (2 : Int32)).toNatClampNeg) (t477, σ.2).2) (xs (x3 + (1 : Int32)).toNatClampNeg) (xs (x3 + (2 : Int32)).toNatClampNeg) σ.1) ∧ (¬ ((xs x3.toNatClampNeg) &&& (31 : Int32)) = 14 → (((xs x3.toNatClampNeg) &&& (31 : Int32)) = 15 → vp_in (x3 + (1 : Int32)) L ∧ vp_in (x3 + (2 : Int32)) L ∧ C_X6_meta_w b k (fun r510 t510 => vp_in (x3 + (1 : Int32)) L ∧ vp_in (x3 + (2 : Int32)) L ∧ R_meta_w (fun r524 t524 => (r510 = r524 → L_law_b586 b k L xs MC MS Q K18 x3 nc ns ((t510, σ.2).1, t524)) ∧ (¬ r510 = r524 → False)) (xs (x3 + (1 : Int32)).toNatClampNeg) (xs (x3 + (2 : Int32)).toNatClampNeg) (t510, σ.2).2) (xs (x3 + (1 : Int32)).toNatClampNeg) (xs (x3 + (2 : Int32)).toNatClampNeg) σ.1) ∧ (¬ ((xs x3.toNatClampNeg) &&& (31 : Int32)) = 15 → (((xs x3.toNatClampNeg) &&& (31 : Int32)) = 16 → vp_in (x3 + (1 : Int32)) L ∧ vp_in (x3 + (2 : Int32)) L ∧ vp_in (x3 + (3 : Int32)) L ∧ vp_in (x3 + (4 : Int32)) L ∧ C_X6_value_w b k (fun r553 t553 => vp_in (x3 + (1 : Int32)) L ∧ vp_in (x3 + (2 : Int32)) L ∧ vp_in (x3 + (3 : Int32)) L ∧ vp_in (x3 + (4 : Int32)) L ∧ R_value_w (fun r577 t577 => ((lg_cmp r553 r577) = 0 → L_law_b586 b k L xs MC MS Q K18 x3 nc ns ((t553, σ.2).1, t577)) ∧ (¬ (lg_cmp r553 r577) = 0 → False)) (xs (x3 + (1 : Int32)).toNatClampNeg) (xs (x3 + (2 : Int32)).toNatClampNeg) (xs (x3 + (3 : Int32)).toNatClampNeg) (xs (x3 + (4 : Int32)).toNatClampNeg) (t553, σ.2).2) (xs (x3 + (1 : Int32)).toNatClampNeg) (xs (x3 + (2 : Int32)).toNatClampNeg) (xs (x3 + (3 : Int32)).toNatClampNeg) (xs (x3 + (4 : Int32)).toNatClampNeg) σ.1) ∧ (¬ ((xs x3.toNatClampNeg) &&& (31 : Int32)) = 16 → ((((xs x3.toNatClampNeg) &&& (31 : Int32))).toInt < 0 ∨ 16 < (((xs x3.toNatClampNeg) &&& (31 : Int32))).toInt) ∧ L_law_b586 b k L xs MC MS Q K18 x3 nc ns σ))))))))))))))))))
def L_law_b18_f (b : Nat → Nat) (k : Nat → ClassId) (L : Nat) (xs : Nat → Int32) (MC MS : Nat) (Q : Prop) : (Int32 × Nat × Nat × cS × rS → Prop) → Int32 × Nat × Nat × cS × rS → Prop :=
 fun K z => L_law_b18_s b k L xs MC MS Q (fun x3 nc ns σ => K (x3, nc, ns, σ)) z.1 z.2.1 z.2.2.1 z.2.2.2
def L_law_b18 (b : Nat → Nat) (k : Nat → ClassId) (L : Nat) (xs : Nat → Int32) (MC MS : Nat) (Q : Prop) (x3 : Int32) (nc : Nat) (ns : Nat) (σ : cS × rS) : Prop := ∃ n, fx (L_law_b18_f b k L xs MC MS Q ) n (x3, nc, ns, σ)
set_option maxHeartbeats 4000000 in
set_option maxRecDepth 100000 in
theorem lB_law_18 {Q : Prop} (X : CallFix p m c code 4 s args (cw :: wG) RL) (hR : 27 ≤ R.frames ∧ 621 ≤ R.locals) (hK : cK dC dI k s) (hA : ∀ q, s.heap.size ≤ q → A q) (hsA : ¬ A sb) (hRc : R.cells = MC ∧ R.slots = MS) (hX : va_X sb L xs s s.heap) (hsb : sb < s.heap.size) (hE : ∀ (H : Heap) (locs : List Loc) (ls : Array Slot) (nc ns : Nat), nc ≤ MC → ns ≤ MS → va_S A s.heap H locs → W p l e R s m args below meth c H locs nc ns QF (F0 m 593 ls [.int 1])) : ∀ (n : Nat) (x3 : Int32) (nc : Nat) (ns : Nat) (σ : cS × rS) (H : Heap) (locs : List Loc) (ls : Array Slot), lv_has ls 4 [(0, .ref sb), (1, .ref (b 0)), (2, .ref h), (3, .int x3)] → lO dC dI b k h a A s.heap σ H locs → (nc ≤ MC ∧ ns ≤ MS) → fx (L_law_b18_f b k L xs MC MS Q ) n (x3, nc, ns, σ) → W p l e R s m args below meth c H locs nc ns QF (F0 m 18 ls []) := by
  intro n
  induction n with
  | zero => intro x3 nc ns σ H locs ls hl hO hc hw; exact False.elim hw
  | succ n k18 =>
    intro x3 nc ns σ H locs ls hl hO hc hw
    have hw : L_law_b18_s b k L xs MC MS Q (fun x3 nc ns σ => fx (L_law_b18_f b k L xs MC MS Q ) n (x3, nc, ns, σ)) x3 nc ns σ := hw
    unfold L_law_b18_s at hw
    refine lv_iload_n X.1 X.2.1 dL_law_18 rfl (lv_at hl 3 rfl) ?_
    refine lv_aload_n X.1 X.2.1 dL_law_19 rfl (lv_at hl 0 rfl) ?_
    refine va_slen X.1 X.2.1 hX hsb hsA hO.2.2 dL_law_20 ?_
    refine lv_iconst (v := 5) X.1 X.2.1 dL_law_21 (by decide) ?_
    refine lv_isub X.1 X.2.1 dL_law_22 ?_
    refine lv_icmp_gt (tgt := 592) X.1 X.2.1 dL_law_23 rfl (fun hc9 => ?_) (fun hc9 => ?_)
    · have hw := hw.1 hc9
      refine lv_iconst (v := 1) X.1 X.2.1 dL_law_592 (by decide) ?_
      exact hE H locs ls _ _ hc.1 hc.2 hO.2.2
    · have hw := hw.2 hc9
      refine lv_aload_n X.1 X.2.1 dL_law_26 rfl (lv_at hl 0 rfl) ?_
      refine lv_iload_n X.1 X.2.1 dL_law_27 rfl (lv_at hl 3 rfl) ?_
      obtain ⟨g28, hw⟩ := hw
      refine va_sld X.1 X.2.1 hX hsb hsA hO.2.2 g28 dL_law_28 ?_
      refine lv_bipush (v := 31) X.1 X.2.1 dL_law_29 (by decide) ?_
      refine lv_iand X.1 X.2.1 dL_law_31 ?_
      by_cases h0 : ((xs x3.toNatClampNeg) &&& (31 : Int32)) = 0
      · have hw := hw.1 h0
        rw [h0]
        refine lv_tableIn (tgt := 116) (off := 84) X.1 X.2.1 dL_law_32 (by decide) (by decide) (by decide) rfl ?_
        refine lv_aload_n X.1 X.2.1 dL_law_116 rfl (lv_at hl 1 rfl) ?_
        refine lv_aload_n X.1 X.2.1 dL_law_117 rfl (lv_at hl 0 rfl) ?_
        refine lv_iload_n X.1 X.2.1 dL_law_118 rfl (lv_at hl 3 rfl) ?_
        refine lv_iconst (v := 1) X.1 X.2.1 dL_law_119 (by decide) ?_
        refine lv_iadd X.1 X.2.1 dL_law_120 ?_
        obtain ⟨g121, hw⟩ := hw
        refine va_sld X.1 X.2.1 hX hsb hsA hO.2.2 g121 dL_law_121 ?_
        refine lv_i2l X.1 X.2.1 dL_law_122 rfl ?_
        refine lv_bipush (v := 32) X.1 X.2.1 dL_law_123 (by decide) ?_
        refine lv_lshl X.1 X.2.1 dL_law_125 rfl ?_
        refine lv_aload_n X.1 X.2.1 dL_law_126 rfl (lv_at hl 0 rfl) ?_
        refine lv_iload_n X.1 X.2.1 dL_law_127 rfl (lv_at hl 3 rfl) ?_
        refine lv_iconst (v := 2) X.1 X.2.1 dL_law_128 (by decide) ?_
        refine lv_iadd X.1 X.2.1 dL_law_129 ?_
        obtain ⟨g130, hw⟩ := hw
        refine va_sld X.1 X.2.1 hX hsb hsA hO.2.2 g130 dL_law_130 ?_
        refine lv_i2l X.1 X.2.1 dL_law_131 rfl ?_
        refine lv_ldc2 (v := 4294967295) X.1 X.2.1 X.2.2.2.1 (X.2.2.2.2 _ (List.mem_cons_of_mem _ qL_13)) dL_law_132 ?_
        refine lv_land X.1 X.2.1 dL_law_135 ?_
        refine lv_lor X.1 X.2.1 dL_law_136 ?_
        refine lv_aload_n X.1 X.2.1 dL_law_137 rfl (lv_at hl 0 rfl) ?_
        refine lv_iload_n X.1 X.2.1 dL_law_138 rfl (lv_at hl 3 rfl) ?_
        refine lv_iconst (v := 3) X.1 X.2.1 dL_law_139 (by decide) ?_
        refine lv_iadd X.1 X.2.1 dL_law_140 ?_
        obtain ⟨g141, hw⟩ := hw
        refine va_sld X.1 X.2.1 hX hsb hsA hO.2.2 g141 dL_law_141 ?_
        refine lc_calli (rest := []) (As := [.long ((((xs (x3 + (1 : Int32)).toNatClampNeg).toInt64) <<< ((32 : Int32).toInt64 &&& 63)) ||| (((xs (x3 + (2 : Int32)).toNatClampNeg).toInt64) &&& (4294967295 : Int64))), .int (xs (x3 + (3 : Int32)).toNatClampNeg)]) X (cC_X6_put l dC dI b k σ.1 H.size ((((xs (x3 + (1 : Int32)).toNatClampNeg).toInt64) <<< ((32 : Int32).toInt64 &&& 63)) ||| (((xs (x3 + (2 : Int32)).toNatClampNeg).toInt64) &&& (4294967295 : Int64))) (xs (x3 + (3 : Int32)).toNatClampNeg) _ hw) (cwV 2 X.2.2.2.2 gL_c_put rfl rfl rfl hdL_c_put ⟨Nat.le_trans (show 0 + 1 ≤ 27 by decide) hR.1, Nat.le_trans (show 8 + (5 + 11) + 0 ≤ 621 by decide) hR.2⟩) hK hA hO rfl hl.1 rfl (Nat.le_of_ble_eq_true rfl) dL_law_142 (by rw [hRc.1]; exact hc.1) (by rw [hRc.2]; exact hc.2) (fun r142 t142 H locs hO hw => ?_)
        refine lv_aload_n X.1 X.2.1 dL_law_145 rfl (lv_at hl 2 rfl) ?_
        refine lv_aload_n X.1 X.2.1 dL_law_146 rfl (lv_at hl 0 rfl) ?_
        refine lv_iload_n X.1 X.2.1 dL_law_147 rfl (lv_at hl 3 rfl) ?_
        refine lv_iconst (v := 1) X.1 X.2.1 dL_law_148 (by decide) ?_
        refine lv_iadd X.1 X.2.1 dL_law_149 ?_
        obtain ⟨g150, hw⟩ := hw
        refine va_sld X.1 X.2.1 hX hsb hsA hO.2.2 g150 dL_law_150 ?_
        refine lv_i2l X.1 X.2.1 dL_law_151 rfl ?_
        refine lv_bipush (v := 32) X.1 X.2.1 dL_law_152 (by decide) ?_
        refine lv_lshl X.1 X.2.1 dL_law_154 rfl ?_
        refine lv_aload_n X.1 X.2.1 dL_law_155 rfl (lv_at hl 0 rfl) ?_
        refine lv_iload_n X.1 X.2.1 dL_law_156 rfl (lv_at hl 3 rfl) ?_
        refine lv_iconst (v := 2) X.1 X.2.1 dL_law_157 (by decide) ?_
        refine lv_iadd X.1 X.2.1 dL_law_158 ?_
        obtain ⟨g159, hw⟩ := hw
        refine va_sld X.1 X.2.1 hX hsb hsA hO.2.2 g159 dL_law_159 ?_
        refine lv_i2l X.1 X.2.1 dL_law_160 rfl ?_
        refine lv_ldc2 (v := 4294967295) X.1 X.2.1 X.2.2.2.1 (X.2.2.2.2 _ (List.mem_cons_of_mem _ qL_13)) dL_law_161 ?_
        refine lv_land X.1 X.2.1 dL_law_164 ?_
        refine lv_lor X.1 X.2.1 dL_law_165 ?_
        refine lv_aload_n X.1 X.2.1 dL_law_166 rfl (lv_at hl 0 rfl) ?_
        refine lv_iload_n X.1 X.2.1 dL_law_167 rfl (lv_at hl 3 rfl) ?_
        refine lv_iconst (v := 3) X.1 X.2.1 dL_law_168 (by decide) ?_
        refine lv_iadd X.1 X.2.1 dL_law_169 ?_
        obtain ⟨g170, hw⟩ := hw
        refine va_sld X.1 X.2.1 hX hsb hsA hO.2.2 g170 dL_law_170 ?_
        refine lr_calli (rest := [.int r142]) (As := [.long ((((xs (x3 + (1 : Int32)).toNatClampNeg).toInt64) <<< ((32 : Int32).toInt64 &&& 63)) ||| (((xs (x3 + (2 : Int32)).toNatClampNeg).toInt64) &&& (4294967295 : Int64))), .int (xs (x3 + (3 : Int32)).toNatClampNeg)]) X (rC_put l dC dI h a (k 0) (k 1) (t142, σ.2).2 H.size ((((xs (x3 + (1 : Int32)).toNatClampNeg).toInt64) <<< ((32 : Int32).toInt64 &&& 63)) ||| (((xs (x3 + (2 : Int32)).toNatClampNeg).toInt64) &&& (4294967295 : Int64))) (xs (x3 + (3 : Int32)).toNatClampNeg) _ hw) (cwV 2 X.2.2.2.2 gL_r_put rfl rfl rfl hdL_r_put ⟨Nat.le_trans (show 0 + 1 ≤ 27 by decide) hR.1, Nat.le_trans (show 8 + (5 + 11) + 0 ≤ 621 by decide) hR.2⟩) hK hA hO rfl hl.1 rfl (Nat.le_of_ble_eq_true rfl) dL_law_171 (by rw [hRc.1]; exact hc.1) (by rw [hRc.2]; exact hc.2) (fun r171 t171 H locs hO hw => ?_)
        refine lv_icmp_eq (tgt := 586) X.1 X.2.1 dL_law_174 rfl (fun hc9 => ?_) (fun hc9 => ?_)
        · have hw := hw.1 hc9
          exact lB_law_586 X hR hK hA hsA hRc hX hsb hE k18 x3 nc ns ((t142, σ.2).1, t171) H locs ls (lv_sub hl [0, 1, 2, 3] rfl) hO hc hw
        · have hw := hw.2 hc9
          refine lv_iconst (v := 0) X.1 X.2.1 dL_law_177 (by decide) ?_
          exact False.elim hw
      · have hw := hw.2 h0
        by_cases h1 : ((xs x3.toNatClampNeg) &&& (31 : Int32)) = 1
        · have hw := hw.1 h1
          rw [h1]
          refine lv_tableIn (tgt := 179) (off := 147) X.1 X.2.1 dL_law_32 (by decide) (by decide) (by decide) rfl ?_
          refine lv_aload_n X.1 X.2.1 dL_law_179 rfl (lv_at hl 1 rfl) ?_
          refine lc_callv (rest := []) (As := []) X (cC_X6_drop l dC dI b k σ.1 H.size _ hw) (cwV 0 X.2.2.2.2 gL_c_drop rfl rfl rfl hdL_c_drop ⟨Nat.le_trans (show 0 + 1 ≤ 27 by decide) hR.1, Nat.le_trans (show 8 + (1 + 11) + 0 ≤ 621 by decide) hR.2⟩) hK hA hO rfl hl.1 rfl (Nat.le_of_ble_eq_true rfl) dL_law_180 (by rw [hRc.1]; exact hc.1) (by rw [hRc.2]; exact hc.2) (fun t180 H locs hO hw => ?_)
          refine lv_aload_n X.1 X.2.1 dL_law_183 rfl (lv_at hl 2 rfl) ?_
          refine lr_callv (rest := []) (As := []) X (rC_drop l dC dI h a (k 0) (k 1) (t180, σ.2).2 H.size _ hw) (cwV 0 X.2.2.2.2 gL_r_drop rfl rfl rfl hdL_r_drop ⟨Nat.le_trans (show 0 + 1 ≤ 27 by decide) hR.1, Nat.le_trans (show 8 + (1 + 11) + 0 ≤ 621 by decide) hR.2⟩) hK hA hO rfl hl.1 rfl (Nat.le_of_ble_eq_true rfl) dL_law_184 (by rw [hRc.1]; exact hc.1) (by rw [hRc.2]; exact hc.2) (fun t184 H locs hO hw => ?_)
          refine lv_goto (tgt := 586) X.1 X.2.1 dL_law_187 rfl ?_
          exact lB_law_586 X hR hK hA hsA hRc hX hsb hE k18 x3 nc ns ((t180, σ.2).1, t184) H locs ls (lv_sub hl [0, 1, 2, 3] rfl) hO hc hw
        · have hw := hw.2 h1
          by_cases h2 : ((xs x3.toNatClampNeg) &&& (31 : Int32)) = 2
          · have hw := hw.1 h2
            rw [h2]
            refine lv_tableIn (tgt := 190) (off := 158) X.1 X.2.1 dL_law_32 (by decide) (by decide) (by decide) rfl ?_
            refine lv_aload_n X.1 X.2.1 dL_law_190 rfl (lv_at hl 1 rfl) ?_
            refine lc_calli (rest := []) (As := []) X (cC_X6_length l dC dI b k σ.1 H.size _ hw) (cwV 0 X.2.2.2.2 gL_c_length rfl rfl rfl hdL_c_length ⟨Nat.le_trans (show 0 + 1 ≤ 27 by decide) hR.1, Nat.le_trans (show 8 + (1 + 11) + 0 ≤ 621 by decide) hR.2⟩) hK hA hO rfl hl.1 rfl (Nat.le_of_ble_eq_true rfl) dL_law_191 (by rw [hRc.1]; exact hc.1) (by rw [hRc.2]; exact hc.2) (fun r191 t191 H locs hO hw => ?_)
            refine lv_aload_n X.1 X.2.1 dL_law_194 rfl (lv_at hl 2 rfl) ?_
            refine lr_calli (rest := [.int r191]) (As := []) X (rC_length l dC dI h a (k 0) (k 1) (t191, σ.2).2 H.size _ hw) (cwV 0 X.2.2.2.2 gL_r_length rfl rfl rfl hdL_r_length ⟨Nat.le_trans (show 0 + 1 ≤ 27 by decide) hR.1, Nat.le_trans (show 8 + (1 + 11) + 0 ≤ 621 by decide) hR.2⟩) hK hA hO rfl hl.1 rfl (Nat.le_of_ble_eq_true rfl) dL_law_195 (by rw [hRc.1]; exact hc.1) (by rw [hRc.2]; exact hc.2) (fun r195 t195 H locs hO hw => ?_)
            refine lv_icmp_eq (tgt := 586) X.1 X.2.1 dL_law_198 rfl (fun hc9 => ?_) (fun hc9 => ?_)
            · have hw := hw.1 hc9
              exact lB_law_586 X hR hK hA hsA hRc hX hsb hE k18 x3 nc ns ((t191, σ.2).1, t195) H locs ls (lv_sub hl [0, 1, 2, 3] rfl) hO hc hw
            · have hw := hw.2 hc9
              refine lv_iconst (v := 0) X.1 X.2.1 dL_law_201 (by decide) ?_
              exact False.elim hw
          · have hw := hw.2 h2
            by_cases h3 : ((xs x3.toNatClampNeg) &&& (31 : Int32)) = 3
            · have hw := hw.1 h3
              rw [h3]
              refine lv_tableIn (tgt := 203) (off := 171) X.1 X.2.1 dL_law_32 (by decide) (by decide) (by decide) rfl ?_
              refine lv_aload_n X.1 X.2.1 dL_law_203 rfl (lv_at hl 1 rfl) ?_
              obtain ⟨mc204, ms204, hc1, hc2, hw⟩ := hw
              have hc : nc + mc204 ≤ MC ∧ ns + ms204 ≤ MS := ⟨hc1, hc2⟩
              refine lc_calli (rest := []) (As := []) X (cC_X6_read l dC dI b k σ.1 H.size mc204 ms204 _ hw) (cwV 0 X.2.2.2.2 gL_c_read rfl rfl rfl hdL_c_read ⟨Nat.le_trans (show 26 + 1 ≤ 27 by decide) hR.1, Nat.le_trans (show 8 + (3 + 11) + 599 ≤ 621 by decide) hR.2⟩) hK hA hO rfl hl.1 rfl (Nat.le_of_ble_eq_true rfl) dL_law_204 (by rw [hRc.1]; exact hc.1) (by rw [hRc.2]; exact hc.2) (fun r204 t204 H locs hO hw => ?_)
              refine lv_aload_n X.1 X.2.1 dL_law_207 rfl (lv_at hl 2 rfl) ?_
              refine lr_calli (rest := [.int r204]) (As := []) X (rC_read l dC dI h a (k 0) (k 1) (t204, σ.2).2 H.size _ hw) (cwV 0 X.2.2.2.2 gL_r_read rfl rfl rfl hdL_r_read ⟨Nat.le_trans (show 6 + 1 ≤ 27 by decide) hR.1, Nat.le_trans (show 8 + (2 + 11) + 142 ≤ 621 by decide) hR.2⟩) hK hA hO rfl hl.1 rfl (Nat.le_of_ble_eq_true rfl) dL_law_208 (by rw [hRc.1]; exact hc.1) (by rw [hRc.2]; exact hc.2) (fun r208 t208 H locs hO hw => ?_)
              refine lv_icmp_eq (tgt := 586) X.1 X.2.1 dL_law_211 rfl (fun hc9 => ?_) (fun hc9 => ?_)
              · have hw := hw.1 hc9
                exact lB_law_586 X hR hK hA hsA hRc hX hsb hE k18 x3 (nc + mc204) (ns + ms204) ((t204, σ.2).1, t208) H locs ls (lv_sub hl [0, 1, 2, 3] rfl) hO hc hw
              · have hw := hw.2 hc9
                refine lv_iconst (v := 0) X.1 X.2.1 dL_law_214 (by decide) ?_
                exact False.elim hw
            · have hw := hw.2 h3
              by_cases h4 : ((xs x3.toNatClampNeg) &&& (31 : Int32)) = 4
              · have hw := hw.1 h4
                rw [h4]
                refine lv_tableIn (tgt := 216) (off := 184) X.1 X.2.1 dL_law_32 (by decide) (by decide) (by decide) rfl ?_
                refine lv_aload_n X.1 X.2.1 dL_law_216 rfl (lv_at hl 1 rfl) ?_
                refine lc_calli (rest := []) (As := []) X (cC_X6_classes l dC dI b k σ.1 H.size _ hw) (cwV 0 X.2.2.2.2 gL_c_classes rfl rfl rfl hdL_c_classes ⟨Nat.le_trans (show 0 + 1 ≤ 27 by decide) hR.1, Nat.le_trans (show 8 + (1 + 11) + 0 ≤ 621 by decide) hR.2⟩) hK hA hO rfl hl.1 rfl (Nat.le_of_ble_eq_true rfl) dL_law_217 (by rw [hRc.1]; exact hc.1) (by rw [hRc.2]; exact hc.2) (fun r217 t217 H locs hO hw => ?_)
                refine lv_aload_n X.1 X.2.1 dL_law_220 rfl (lv_at hl 2 rfl) ?_
                refine lr_calli (rest := [.int r217]) (As := []) X (rC_classes l dC dI h a (k 0) (k 1) (t217, σ.2).2 H.size _ hw) (cwV 0 X.2.2.2.2 gL_r_classes rfl rfl rfl hdL_r_classes ⟨Nat.le_trans (show 0 + 1 ≤ 27 by decide) hR.1, Nat.le_trans (show 8 + (1 + 11) + 0 ≤ 621 by decide) hR.2⟩) hK hA hO rfl hl.1 rfl (Nat.le_of_ble_eq_true rfl) dL_law_221 (by rw [hRc.1]; exact hc.1) (by rw [hRc.2]; exact hc.2) (fun r221 t221 H locs hO hw => ?_)
                refine lv_icmp_eq (tgt := 586) X.1 X.2.1 dL_law_224 rfl (fun hc9 => ?_) (fun hc9 => ?_)
                · have hw := hw.1 hc9
                  exact lB_law_586 X hR hK hA hsA hRc hX hsb hE k18 x3 nc ns ((t217, σ.2).1, t221) H locs ls (lv_sub hl [0, 1, 2, 3] rfl) hO hc hw
                · have hw := hw.2 hc9
                  refine lv_iconst (v := 0) X.1 X.2.1 dL_law_227 (by decide) ?_
                  exact False.elim hw
              · have hw := hw.2 h4
                by_cases h5 : ((xs x3.toNatClampNeg) &&& (31 : Int32)) = 5
                · have hw := hw.1 h5
                  rw [h5]
                  refine lv_tableIn (tgt := 229) (off := 197) X.1 X.2.1 dL_law_32 (by decide) (by decide) (by decide) rfl ?_
                  refine lv_aload_n X.1 X.2.1 dL_law_229 rfl (lv_at hl 1 rfl) ?_
                  refine lc_calli (rest := []) (As := []) X (cC_X6_texts l dC dI b k σ.1 H.size _ hw) (cwV 0 X.2.2.2.2 gL_c_texts rfl rfl rfl hdL_c_texts ⟨Nat.le_trans (show 0 + 1 ≤ 27 by decide) hR.1, Nat.le_trans (show 8 + (1 + 11) + 0 ≤ 621 by decide) hR.2⟩) hK hA hO rfl hl.1 rfl (Nat.le_of_ble_eq_true rfl) dL_law_230 (by rw [hRc.1]; exact hc.1) (by rw [hRc.2]; exact hc.2) (fun r230 t230 H locs hO hw => ?_)
                  refine lv_aload_n X.1 X.2.1 dL_law_233 rfl (lv_at hl 2 rfl) ?_
                  refine lr_calli (rest := [.int r230]) (As := []) X (rC_texts l dC dI h a (k 0) (k 1) (t230, σ.2).2 H.size _ hw) (cwV 0 X.2.2.2.2 gL_r_texts rfl rfl rfl hdL_r_texts ⟨Nat.le_trans (show 0 + 1 ≤ 27 by decide) hR.1, Nat.le_trans (show 8 + (1 + 11) + 0 ≤ 621 by decide) hR.2⟩) hK hA hO rfl hl.1 rfl (Nat.le_of_ble_eq_true rfl) dL_law_234 (by rw [hRc.1]; exact hc.1) (by rw [hRc.2]; exact hc.2) (fun r234 t234 H locs hO hw => ?_)
                  refine lv_icmp_eq (tgt := 586) X.1 X.2.1 dL_law_237 rfl (fun hc9 => ?_) (fun hc9 => ?_)
                  · have hw := hw.1 hc9
                    exact lB_law_586 X hR hK hA hsA hRc hX hsb hE k18 x3 nc ns ((t230, σ.2).1, t234) H locs ls (lv_sub hl [0, 1, 2, 3] rfl) hO hc hw
                  · have hw := hw.2 hc9
                    refine lv_iconst (v := 0) X.1 X.2.1 dL_law_240 (by decide) ?_
                    exact False.elim hw
                · have hw := hw.2 h5
                  by_cases h6 : ((xs x3.toNatClampNeg) &&& (31 : Int32)) = 6
                  · have hw := hw.1 h6
                    rw [h6]
                    refine lv_tableIn (tgt := 242) (off := 210) X.1 X.2.1 dL_law_32 (by decide) (by decide) (by decide) rfl ?_
                    refine lv_aload_n X.1 X.2.1 dL_law_242 rfl (lv_at hl 1 rfl) ?_
                    refine lv_aload_n X.1 X.2.1 dL_law_243 rfl (lv_at hl 0 rfl) ?_
                    refine lv_iload_n X.1 X.2.1 dL_law_244 rfl (lv_at hl 3 rfl) ?_
                    refine lv_iconst (v := 1) X.1 X.2.1 dL_law_245 (by decide) ?_
                    refine lv_iadd X.1 X.2.1 dL_law_246 ?_
                    obtain ⟨g247, hw⟩ := hw
                    refine va_sld X.1 X.2.1 hX hsb hsA hO.2.2 g247 dL_law_247 ?_
                    refine lv_aload_n X.1 X.2.1 dL_law_248 rfl (lv_at hl 0 rfl) ?_
                    refine lv_iload_n X.1 X.2.1 dL_law_249 rfl (lv_at hl 3 rfl) ?_
                    refine lv_iconst (v := 2) X.1 X.2.1 dL_law_250 (by decide) ?_
                    refine lv_iadd X.1 X.2.1 dL_law_251 ?_
                    obtain ⟨g252, hw⟩ := hw
                    refine va_sld X.1 X.2.1 hX hsb hsA hO.2.2 g252 dL_law_252 ?_
                    refine lc_calli (rest := []) (As := [.int (xs (x3 + (1 : Int32)).toNatClampNeg), .int (xs (x3 + (2 : Int32)).toNatClampNeg)]) X (cC_X6_letter l dC dI b k σ.1 H.size (xs (x3 + (1 : Int32)).toNatClampNeg) (xs (x3 + (2 : Int32)).toNatClampNeg) _ hw) (cwV 2 X.2.2.2.2 gL_c_letter rfl rfl rfl hdL_c_letter ⟨Nat.le_trans (show 3 + 1 ≤ 27 by decide) hR.1, Nat.le_trans (show 8 + (3 + 11) + 64 ≤ 621 by decide) hR.2⟩) hK hA hO rfl hl.1 rfl (Nat.le_of_ble_eq_true rfl) dL_law_253 (by rw [hRc.1]; exact hc.1) (by rw [hRc.2]; exact hc.2) (fun r253 t253 H locs hO hw => ?_)
                    refine lv_aload_n X.1 X.2.1 dL_law_256 rfl (lv_at hl 2 rfl) ?_
                    refine lv_aload_n X.1 X.2.1 dL_law_257 rfl (lv_at hl 0 rfl) ?_
                    refine lv_iload_n X.1 X.2.1 dL_law_258 rfl (lv_at hl 3 rfl) ?_
                    refine lv_iconst (v := 1) X.1 X.2.1 dL_law_259 (by decide) ?_
                    refine lv_iadd X.1 X.2.1 dL_law_260 ?_
                    obtain ⟨g261, hw⟩ := hw
                    refine va_sld X.1 X.2.1 hX hsb hsA hO.2.2 g261 dL_law_261 ?_
                    refine lv_aload_n X.1 X.2.1 dL_law_262 rfl (lv_at hl 0 rfl) ?_
                    refine lv_iload_n X.1 X.2.1 dL_law_263 rfl (lv_at hl 3 rfl) ?_
                    refine lv_iconst (v := 2) X.1 X.2.1 dL_law_264 (by decide) ?_
                    refine lv_iadd X.1 X.2.1 dL_law_265 ?_
                    obtain ⟨g266, hw⟩ := hw
                    refine va_sld X.1 X.2.1 hX hsb hsA hO.2.2 g266 dL_law_266 ?_
                    refine lr_calli (rest := [.int r253]) (As := [.int (xs (x3 + (1 : Int32)).toNatClampNeg), .int (xs (x3 + (2 : Int32)).toNatClampNeg)]) X (rC_letter l dC dI h a (k 0) (k 1) (t253, σ.2).2 H.size (xs (x3 + (1 : Int32)).toNatClampNeg) (xs (x3 + (2 : Int32)).toNatClampNeg) _ hw) (cwV 2 X.2.2.2.2 gL_r_letter rfl rfl rfl hdL_r_letter ⟨Nat.le_trans (show 1 + 1 ≤ 27 by decide) hR.1, Nat.le_trans (show 8 + (3 + 11) + 21 ≤ 621 by decide) hR.2⟩) hK hA hO rfl hl.1 rfl (Nat.le_of_ble_eq_true rfl) dL_law_267 (by rw [hRc.1]; exact hc.1) (by rw [hRc.2]; exact hc.2) (fun r267 t267 H locs hO hw => ?_)
                    refine lv_icmp_eq (tgt := 586) X.1 X.2.1 dL_law_270 rfl (fun hc9 => ?_) (fun hc9 => ?_)
                    · have hw := hw.1 hc9
                      exact lB_law_586 X hR hK hA hsA hRc hX hsb hE k18 x3 nc ns ((t253, σ.2).1, t267) H locs ls (lv_sub hl [0, 1, 2, 3] rfl) hO hc hw
                    · have hw := hw.2 hc9
                      refine lv_iconst (v := 0) X.1 X.2.1 dL_law_273 (by decide) ?_
                      exact False.elim hw
                  · have hw := hw.2 h6
                    by_cases h7 : ((xs x3.toNatClampNeg) &&& (31 : Int32)) = 7
                    · have hw := hw.1 h7
                      rw [h7]
                      refine lv_tableIn (tgt := 275) (off := 243) X.1 X.2.1 dL_law_32 (by decide) (by decide) (by decide) rfl ?_
                      refine lv_aload_n X.1 X.2.1 dL_law_275 rfl (lv_at hl 1 rfl) ?_
                      refine lv_aload_n X.1 X.2.1 dL_law_276 rfl (lv_at hl 0 rfl) ?_
                      refine lv_iload_n X.1 X.2.1 dL_law_277 rfl (lv_at hl 3 rfl) ?_
                      refine lv_iconst (v := 1) X.1 X.2.1 dL_law_278 (by decide) ?_
                      refine lv_iadd X.1 X.2.1 dL_law_279 ?_
                      obtain ⟨g280, hw⟩ := hw
                      refine va_sld X.1 X.2.1 hX hsb hsA hO.2.2 g280 dL_law_280 ?_
                      refine lc_calli (rest := []) (As := [.int (xs (x3 + (1 : Int32)).toNatClampNeg)]) X (cC_X6_find l dC dI b k σ.1 H.size (xs (x3 + (1 : Int32)).toNatClampNeg) _ hw) (cwV 1 X.2.2.2.2 gL_c_find rfl rfl rfl hdL_c_find ⟨Nat.le_trans (show 1 + 1 ≤ 27 by decide) hR.1, Nat.le_trans (show 8 + (2 + 11) + 21 ≤ 621 by decide) hR.2⟩) hK hA hO rfl hl.1 rfl (Nat.le_of_ble_eq_true rfl) dL_law_281 (by rw [hRc.1]; exact hc.1) (by rw [hRc.2]; exact hc.2) (fun r281 t281 H locs hO hw => ?_)
                      refine lv_aload_n X.1 X.2.1 dL_law_284 rfl (lv_at hl 2 rfl) ?_
                      refine lv_aload_n X.1 X.2.1 dL_law_285 rfl (lv_at hl 0 rfl) ?_
                      refine lv_iload_n X.1 X.2.1 dL_law_286 rfl (lv_at hl 3 rfl) ?_
                      refine lv_iconst (v := 1) X.1 X.2.1 dL_law_287 (by decide) ?_
                      refine lv_iadd X.1 X.2.1 dL_law_288 ?_
                      obtain ⟨g289, hw⟩ := hw
                      refine va_sld X.1 X.2.1 hX hsb hsA hO.2.2 g289 dL_law_289 ?_
                      refine lr_calli (rest := [.int r281]) (As := [.int (xs (x3 + (1 : Int32)).toNatClampNeg)]) X (rC_find l dC dI h a (k 0) (k 1) (t281, σ.2).2 H.size (xs (x3 + (1 : Int32)).toNatClampNeg) _ hw) (cwV 1 X.2.2.2.2 gL_r_find rfl rfl rfl hdL_r_find ⟨Nat.le_trans (show 0 + 1 ≤ 27 by decide) hR.1, Nat.le_trans (show 8 + (3 + 11) + 0 ≤ 621 by decide) hR.2⟩) hK hA hO rfl hl.1 rfl (Nat.le_of_ble_eq_true rfl) dL_law_290 (by rw [hRc.1]; exact hc.1) (by rw [hRc.2]; exact hc.2) (fun r290 t290 H locs hO hw => ?_)
                      refine lv_icmp_eq (tgt := 586) X.1 X.2.1 dL_law_293 rfl (fun hc9 => ?_) (fun hc9 => ?_)
                      · have hw := hw.1 hc9
                        exact lB_law_586 X hR hK hA hsA hRc hX hsb hE k18 x3 nc ns ((t281, σ.2).1, t290) H locs ls (lv_sub hl [0, 1, 2, 3] rfl) hO hc hw
                      · have hw := hw.2 hc9
                        refine lv_iconst (v := 0) X.1 X.2.1 dL_law_296 (by decide) ?_
                        exact False.elim hw
                    · have hw := hw.2 h7
                      by_cases h8 : ((xs x3.toNatClampNeg) &&& (31 : Int32)) = 8
                      · have hw := hw.1 h8
                        rw [h8]
                        refine lv_tableIn (tgt := 298) (off := 266) X.1 X.2.1 dL_law_32 (by decide) (by decide) (by decide) rfl ?_
                        refine lv_aload_n X.1 X.2.1 dL_law_298 rfl (lv_at hl 1 rfl) ?_
                        refine lv_aload_n X.1 X.2.1 dL_law_299 rfl (lv_at hl 0 rfl) ?_
                        refine lv_iload_n X.1 X.2.1 dL_law_300 rfl (lv_at hl 3 rfl) ?_
                        refine lv_iconst (v := 1) X.1 X.2.1 dL_law_301 (by decide) ?_
                        refine lv_iadd X.1 X.2.1 dL_law_302 ?_
                        obtain ⟨g303, hw⟩ := hw
                        refine va_sld X.1 X.2.1 hX hsb hsA hO.2.2 g303 dL_law_303 ?_
                        refine lc_calli (rest := []) (As := [.int (xs (x3 + (1 : Int32)).toNatClampNeg)]) X (cC_X6_name l dC dI b k σ.1 H.size (xs (x3 + (1 : Int32)).toNatClampNeg) _ hw) (cwV 1 X.2.2.2.2 gL_c_name rfl rfl rfl hdL_c_name ⟨Nat.le_trans (show 1 + 1 ≤ 27 by decide) hR.1, Nat.le_trans (show 8 + (2 + 11) + 21 ≤ 621 by decide) hR.2⟩) hK hA hO rfl hl.1 rfl (Nat.le_of_ble_eq_true rfl) dL_law_304 (by rw [hRc.1]; exact hc.1) (by rw [hRc.2]; exact hc.2) (fun r304 t304 H locs hO hw => ?_)
                        refine lv_aload_n X.1 X.2.1 dL_law_307 rfl (lv_at hl 2 rfl) ?_
                        refine lv_aload_n X.1 X.2.1 dL_law_308 rfl (lv_at hl 0 rfl) ?_
                        refine lv_iload_n X.1 X.2.1 dL_law_309 rfl (lv_at hl 3 rfl) ?_
                        refine lv_iconst (v := 1) X.1 X.2.1 dL_law_310 (by decide) ?_
                        refine lv_iadd X.1 X.2.1 dL_law_311 ?_
                        obtain ⟨g312, hw⟩ := hw
                        refine va_sld X.1 X.2.1 hX hsb hsA hO.2.2 g312 dL_law_312 ?_
                        refine lr_calli (rest := [.int r304]) (As := [.int (xs (x3 + (1 : Int32)).toNatClampNeg)]) X (rC_name l dC dI h a (k 0) (k 1) (t304, σ.2).2 H.size (xs (x3 + (1 : Int32)).toNatClampNeg) _ hw) (cwV 1 X.2.2.2.2 gL_r_name rfl rfl rfl hdL_r_name ⟨Nat.le_trans (show 1 + 1 ≤ 27 by decide) hR.1, Nat.le_trans (show 8 + (2 + 11) + 21 ≤ 621 by decide) hR.2⟩) hK hA hO rfl hl.1 rfl (Nat.le_of_ble_eq_true rfl) dL_law_313 (by rw [hRc.1]; exact hc.1) (by rw [hRc.2]; exact hc.2) (fun r313 t313 H locs hO hw => ?_)
                        refine lv_icmp_eq (tgt := 586) X.1 X.2.1 dL_law_316 rfl (fun hc9 => ?_) (fun hc9 => ?_)
                        · have hw := hw.1 hc9
                          exact lB_law_586 X hR hK hA hsA hRc hX hsb hE k18 x3 nc ns ((t304, σ.2).1, t313) H locs ls (lv_sub hl [0, 1, 2, 3] rfl) hO hc hw
                        · have hw := hw.2 hc9
                          refine lv_iconst (v := 0) X.1 X.2.1 dL_law_319 (by decide) ?_
                          exact False.elim hw
                      · have hw := hw.2 h8
                        by_cases h9 : ((xs x3.toNatClampNeg) &&& (31 : Int32)) = 9
                        · have hw := hw.1 h9
                          rw [h9]
                          refine lv_tableIn (tgt := 321) (off := 289) X.1 X.2.1 dL_law_32 (by decide) (by decide) (by decide) rfl ?_
                          refine lv_aload_n X.1 X.2.1 dL_law_321 rfl (lv_at hl 1 rfl) ?_
                          refine lv_aload_n X.1 X.2.1 dL_law_322 rfl (lv_at hl 0 rfl) ?_
                          refine lv_iload_n X.1 X.2.1 dL_law_323 rfl (lv_at hl 3 rfl) ?_
                          refine lv_iconst (v := 1) X.1 X.2.1 dL_law_324 (by decide) ?_
                          refine lv_iadd X.1 X.2.1 dL_law_325 ?_
                          obtain ⟨g326, hw⟩ := hw
                          refine va_sld X.1 X.2.1 hX hsb hsA hO.2.2 g326 dL_law_326 ?_
                          refine lc_calli (rest := []) (As := [.int (xs (x3 + (1 : Int32)).toNatClampNeg)]) X (cC_X6_flags l dC dI b k σ.1 H.size (xs (x3 + (1 : Int32)).toNatClampNeg) _ hw) (cwV 1 X.2.2.2.2 gL_c_flags rfl rfl rfl hdL_c_flags ⟨Nat.le_trans (show 1 + 1 ≤ 27 by decide) hR.1, Nat.le_trans (show 8 + (2 + 11) + 21 ≤ 621 by decide) hR.2⟩) hK hA hO rfl hl.1 rfl (Nat.le_of_ble_eq_true rfl) dL_law_327 (by rw [hRc.1]; exact hc.1) (by rw [hRc.2]; exact hc.2) (fun r327 t327 H locs hO hw => ?_)
                          refine lv_aload_n X.1 X.2.1 dL_law_330 rfl (lv_at hl 2 rfl) ?_
                          refine lv_aload_n X.1 X.2.1 dL_law_331 rfl (lv_at hl 0 rfl) ?_
                          refine lv_iload_n X.1 X.2.1 dL_law_332 rfl (lv_at hl 3 rfl) ?_
                          refine lv_iconst (v := 1) X.1 X.2.1 dL_law_333 (by decide) ?_
                          refine lv_iadd X.1 X.2.1 dL_law_334 ?_
                          obtain ⟨g335, hw⟩ := hw
                          refine va_sld X.1 X.2.1 hX hsb hsA hO.2.2 g335 dL_law_335 ?_
                          refine lr_calli (rest := [.int r327]) (As := [.int (xs (x3 + (1 : Int32)).toNatClampNeg)]) X (rC_flags l dC dI h a (k 0) (k 1) (t327, σ.2).2 H.size (xs (x3 + (1 : Int32)).toNatClampNeg) _ hw) (cwV 1 X.2.2.2.2 gL_r_flags rfl rfl rfl hdL_r_flags ⟨Nat.le_trans (show 1 + 1 ≤ 27 by decide) hR.1, Nat.le_trans (show 8 + (2 + 11) + 21 ≤ 621 by decide) hR.2⟩) hK hA hO rfl hl.1 rfl (Nat.le_of_ble_eq_true rfl) dL_law_336 (by rw [hRc.1]; exact hc.1) (by rw [hRc.2]; exact hc.2) (fun r336 t336 H locs hO hw => ?_)
                          refine lv_icmp_eq (tgt := 586) X.1 X.2.1 dL_law_339 rfl (fun hc9 => ?_) (fun hc9 => ?_)
                          · have hw := hw.1 hc9
                            exact lB_law_586 X hR hK hA hsA hRc hX hsb hE k18 x3 nc ns ((t327, σ.2).1, t336) H locs ls (lv_sub hl [0, 1, 2, 3] rfl) hO hc hw
                          · have hw := hw.2 hc9
                            refine lv_iconst (v := 0) X.1 X.2.1 dL_law_342 (by decide) ?_
                            exact False.elim hw
                        · have hw := hw.2 h9
                          by_cases h10 : ((xs x3.toNatClampNeg) &&& (31 : Int32)) = 10
                          · have hw := hw.1 h10
                            rw [h10]
                            refine lv_tableIn (tgt := 344) (off := 312) X.1 X.2.1 dL_law_32 (by decide) (by decide) (by decide) rfl ?_
                            refine lv_aload_n X.1 X.2.1 dL_law_344 rfl (lv_at hl 1 rfl) ?_
                            refine lv_aload_n X.1 X.2.1 dL_law_345 rfl (lv_at hl 0 rfl) ?_
                            refine lv_iload_n X.1 X.2.1 dL_law_346 rfl (lv_at hl 3 rfl) ?_
                            refine lv_iconst (v := 1) X.1 X.2.1 dL_law_347 (by decide) ?_
                            refine lv_iadd X.1 X.2.1 dL_law_348 ?_
                            obtain ⟨g349, hw⟩ := hw
                            refine va_sld X.1 X.2.1 hX hsb hsA hO.2.2 g349 dL_law_349 ?_
                            refine lc_calli (rest := []) (As := [.int (xs (x3 + (1 : Int32)).toNatClampNeg)]) X (cC_X6_superName l dC dI b k σ.1 H.size (xs (x3 + (1 : Int32)).toNatClampNeg) _ hw) (cwV 1 X.2.2.2.2 gL_c_superName rfl rfl rfl hdL_c_superName ⟨Nat.le_trans (show 1 + 1 ≤ 27 by decide) hR.1, Nat.le_trans (show 8 + (2 + 11) + 21 ≤ 621 by decide) hR.2⟩) hK hA hO rfl hl.1 rfl (Nat.le_of_ble_eq_true rfl) dL_law_350 (by rw [hRc.1]; exact hc.1) (by rw [hRc.2]; exact hc.2) (fun r350 t350 H locs hO hw => ?_)
                            refine lv_aload_n X.1 X.2.1 dL_law_353 rfl (lv_at hl 2 rfl) ?_
                            refine lv_aload_n X.1 X.2.1 dL_law_354 rfl (lv_at hl 0 rfl) ?_
                            refine lv_iload_n X.1 X.2.1 dL_law_355 rfl (lv_at hl 3 rfl) ?_
                            refine lv_iconst (v := 1) X.1 X.2.1 dL_law_356 (by decide) ?_
                            refine lv_iadd X.1 X.2.1 dL_law_357 ?_
                            obtain ⟨g358, hw⟩ := hw
                            refine va_sld X.1 X.2.1 hX hsb hsA hO.2.2 g358 dL_law_358 ?_
                            refine lr_calli (rest := [.int r350]) (As := [.int (xs (x3 + (1 : Int32)).toNatClampNeg)]) X (rC_superName l dC dI h a (k 0) (k 1) (t350, σ.2).2 H.size (xs (x3 + (1 : Int32)).toNatClampNeg) _ hw) (cwV 1 X.2.2.2.2 gL_r_superName rfl rfl rfl hdL_r_superName ⟨Nat.le_trans (show 1 + 1 ≤ 27 by decide) hR.1, Nat.le_trans (show 8 + (2 + 11) + 21 ≤ 621 by decide) hR.2⟩) hK hA hO rfl hl.1 rfl (Nat.le_of_ble_eq_true rfl) dL_law_359 (by rw [hRc.1]; exact hc.1) (by rw [hRc.2]; exact hc.2) (fun r359 t359 H locs hO hw => ?_)
                            refine lv_icmp_eq (tgt := 586) X.1 X.2.1 dL_law_362 rfl (fun hc9 => ?_) (fun hc9 => ?_)
                            · have hw := hw.1 hc9
                              exact lB_law_586 X hR hK hA hsA hRc hX hsb hE k18 x3 nc ns ((t350, σ.2).1, t359) H locs ls (lv_sub hl [0, 1, 2, 3] rfl) hO hc hw
                            · have hw := hw.2 hc9
                              refine lv_iconst (v := 0) X.1 X.2.1 dL_law_365 (by decide) ?_
                              exact False.elim hw
                          · have hw := hw.2 h10
                            by_cases h11 : ((xs x3.toNatClampNeg) &&& (31 : Int32)) = 11
                            · have hw := hw.1 h11
                              rw [h11]
                              refine lv_tableIn (tgt := 367) (off := 335) X.1 X.2.1 dL_law_32 (by decide) (by decide) (by decide) rfl ?_
                              refine lv_aload_n X.1 X.2.1 dL_law_367 rfl (lv_at hl 1 rfl) ?_
                              refine lv_aload_n X.1 X.2.1 dL_law_368 rfl (lv_at hl 0 rfl) ?_
                              refine lv_iload_n X.1 X.2.1 dL_law_369 rfl (lv_at hl 3 rfl) ?_
                              refine lv_iconst (v := 1) X.1 X.2.1 dL_law_370 (by decide) ?_
                              refine lv_iadd X.1 X.2.1 dL_law_371 ?_
                              obtain ⟨g372, hw⟩ := hw
                              refine va_sld X.1 X.2.1 hX hsb hsA hO.2.2 g372 dL_law_372 ?_
                              refine lv_aload_n X.1 X.2.1 dL_law_373 rfl (lv_at hl 0 rfl) ?_
                              refine lv_iload_n X.1 X.2.1 dL_law_374 rfl (lv_at hl 3 rfl) ?_
                              refine lv_iconst (v := 2) X.1 X.2.1 dL_law_375 (by decide) ?_
                              refine lv_iadd X.1 X.2.1 dL_law_376 ?_
                              obtain ⟨g377, hw⟩ := hw
                              refine va_sld X.1 X.2.1 hX hsb hsA hO.2.2 g377 dL_law_377 ?_
                              refine lc_calli (rest := []) (As := [.int (xs (x3 + (1 : Int32)).toNatClampNeg), .int (xs (x3 + (2 : Int32)).toNatClampNeg)]) X (cC_X6_subtype l dC dI b k σ.1 H.size (xs (x3 + (1 : Int32)).toNatClampNeg) (xs (x3 + (2 : Int32)).toNatClampNeg) _ hw) (cwV 2 X.2.2.2.2 gL_c_subtype rfl rfl rfl hdL_c_subtype ⟨Nat.le_trans (show 2 + 1 ≤ 27 by decide) hR.1, Nat.le_trans (show 8 + (3 + 11) + 49 ≤ 621 by decide) hR.2⟩) hK hA hO rfl hl.1 rfl (Nat.le_of_ble_eq_true rfl) dL_law_378 (by rw [hRc.1]; exact hc.1) (by rw [hRc.2]; exact hc.2) (fun r378 t378 H locs hO hw => ?_)
                              refine lv_aload_n X.1 X.2.1 dL_law_381 rfl (lv_at hl 2 rfl) ?_
                              refine lv_aload_n X.1 X.2.1 dL_law_382 rfl (lv_at hl 0 rfl) ?_
                              refine lv_iload_n X.1 X.2.1 dL_law_383 rfl (lv_at hl 3 rfl) ?_
                              refine lv_iconst (v := 1) X.1 X.2.1 dL_law_384 (by decide) ?_
                              refine lv_iadd X.1 X.2.1 dL_law_385 ?_
                              obtain ⟨g386, hw⟩ := hw
                              refine va_sld X.1 X.2.1 hX hsb hsA hO.2.2 g386 dL_law_386 ?_
                              refine lv_aload_n X.1 X.2.1 dL_law_387 rfl (lv_at hl 0 rfl) ?_
                              refine lv_iload_n X.1 X.2.1 dL_law_388 rfl (lv_at hl 3 rfl) ?_
                              refine lv_iconst (v := 2) X.1 X.2.1 dL_law_389 (by decide) ?_
                              refine lv_iadd X.1 X.2.1 dL_law_390 ?_
                              obtain ⟨g391, hw⟩ := hw
                              refine va_sld X.1 X.2.1 hX hsb hsA hO.2.2 g391 dL_law_391 ?_
                              refine lr_calli (rest := [.int r378]) (As := [.int (xs (x3 + (1 : Int32)).toNatClampNeg), .int (xs (x3 + (2 : Int32)).toNatClampNeg)]) X (rC_subtype l dC dI h a (k 0) (k 1) (t378, σ.2).2 H.size (xs (x3 + (1 : Int32)).toNatClampNeg) (xs (x3 + (2 : Int32)).toNatClampNeg) _ hw) (cwV 2 X.2.2.2.2 gL_r_subtype rfl rfl rfl hdL_r_subtype ⟨Nat.le_trans (show 3 + 1 ≤ 27 by decide) hR.1, Nat.le_trans (show 8 + (3 + 11) + 75 ≤ 621 by decide) hR.2⟩) hK hA hO rfl hl.1 rfl (Nat.le_of_ble_eq_true rfl) dL_law_392 (by rw [hRc.1]; exact hc.1) (by rw [hRc.2]; exact hc.2) (fun r392 t392 H locs hO hw => ?_)
                              refine lv_icmp_eq (tgt := 586) X.1 X.2.1 dL_law_395 rfl (fun hc9 => ?_) (fun hc9 => ?_)
                              · have hw := hw.1 hc9
                                exact lB_law_586 X hR hK hA hsA hRc hX hsb hE k18 x3 nc ns ((t378, σ.2).1, t392) H locs ls (lv_sub hl [0, 1, 2, 3] rfl) hO hc hw
                              · have hw := hw.2 hc9
                                refine lv_iconst (v := 0) X.1 X.2.1 dL_law_398 (by decide) ?_
                                exact False.elim hw
                            · have hw := hw.2 h11
                              by_cases h12 : ((xs x3.toNatClampNeg) &&& (31 : Int32)) = 12
                              · have hw := hw.1 h12
                                rw [h12]
                                refine lv_tableIn (tgt := 400) (off := 368) X.1 X.2.1 dL_law_32 (by decide) (by decide) (by decide) rfl ?_
                                refine lv_aload_n X.1 X.2.1 dL_law_400 rfl (lv_at hl 1 rfl) ?_
                                refine lv_aload_n X.1 X.2.1 dL_law_401 rfl (lv_at hl 0 rfl) ?_
                                refine lv_iload_n X.1 X.2.1 dL_law_402 rfl (lv_at hl 3 rfl) ?_
                                refine lv_iconst (v := 1) X.1 X.2.1 dL_law_403 (by decide) ?_
                                refine lv_iadd X.1 X.2.1 dL_law_404 ?_
                                obtain ⟨g405, hw⟩ := hw
                                refine va_sld X.1 X.2.1 hX hsb hsA hO.2.2 g405 dL_law_405 ?_
                                refine lv_aload_n X.1 X.2.1 dL_law_406 rfl (lv_at hl 0 rfl) ?_
                                refine lv_iload_n X.1 X.2.1 dL_law_407 rfl (lv_at hl 3 rfl) ?_
                                refine lv_iconst (v := 2) X.1 X.2.1 dL_law_408 (by decide) ?_
                                refine lv_iadd X.1 X.2.1 dL_law_409 ?_
                                obtain ⟨g410, hw⟩ := hw
                                refine va_sld X.1 X.2.1 hX hsb hsA hO.2.2 g410 dL_law_410 ?_
                                refine lc_calli (rest := []) (As := [.int (xs (x3 + (1 : Int32)).toNatClampNeg), .int (xs (x3 + (2 : Int32)).toNatClampNeg)]) X (cC_X6_subtypeAt l dC dI b k σ.1 H.size (xs (x3 + (1 : Int32)).toNatClampNeg) (xs (x3 + (2 : Int32)).toNatClampNeg) _ hw) (cwV 2 X.2.2.2.2 gL_c_subtypeAt rfl rfl rfl hdL_c_subtypeAt ⟨Nat.le_trans (show 2 + 1 ≤ 27 by decide) hR.1, Nat.le_trans (show 8 + (5 + 11) + 49 ≤ 621 by decide) hR.2⟩) hK hA hO rfl hl.1 rfl (Nat.le_of_ble_eq_true rfl) dL_law_411 (by rw [hRc.1]; exact hc.1) (by rw [hRc.2]; exact hc.2) (fun r411 t411 H locs hO hw => ?_)
                                refine lv_aload_n X.1 X.2.1 dL_law_414 rfl (lv_at hl 2 rfl) ?_
                                refine lv_aload_n X.1 X.2.1 dL_law_415 rfl (lv_at hl 0 rfl) ?_
                                refine lv_iload_n X.1 X.2.1 dL_law_416 rfl (lv_at hl 3 rfl) ?_
                                refine lv_iconst (v := 1) X.1 X.2.1 dL_law_417 (by decide) ?_
                                refine lv_iadd X.1 X.2.1 dL_law_418 ?_
                                obtain ⟨g419, hw⟩ := hw
                                refine va_sld X.1 X.2.1 hX hsb hsA hO.2.2 g419 dL_law_419 ?_
                                refine lv_aload_n X.1 X.2.1 dL_law_420 rfl (lv_at hl 0 rfl) ?_
                                refine lv_iload_n X.1 X.2.1 dL_law_421 rfl (lv_at hl 3 rfl) ?_
                                refine lv_iconst (v := 2) X.1 X.2.1 dL_law_422 (by decide) ?_
                                refine lv_iadd X.1 X.2.1 dL_law_423 ?_
                                obtain ⟨g424, hw⟩ := hw
                                refine va_sld X.1 X.2.1 hX hsb hsA hO.2.2 g424 dL_law_424 ?_
                                refine lr_calli (rest := [.int r411]) (As := [.int (xs (x3 + (1 : Int32)).toNatClampNeg), .int (xs (x3 + (2 : Int32)).toNatClampNeg)]) X (rC_subtypeAt l dC dI h a (k 0) (k 1) (t411, σ.2).2 H.size (xs (x3 + (1 : Int32)).toNatClampNeg) (xs (x3 + (2 : Int32)).toNatClampNeg) _ hw) (cwV 2 X.2.2.2.2 gL_r_subtypeAt rfl rfl rfl hdL_r_subtypeAt ⟨Nat.le_trans (show 3 + 1 ≤ 27 by decide) hR.1, Nat.le_trans (show 8 + (5 + 11) + 75 ≤ 621 by decide) hR.2⟩) hK hA hO rfl hl.1 rfl (Nat.le_of_ble_eq_true rfl) dL_law_425 (by rw [hRc.1]; exact hc.1) (by rw [hRc.2]; exact hc.2) (fun r425 t425 H locs hO hw => ?_)
                                refine lv_icmp_eq (tgt := 586) X.1 X.2.1 dL_law_428 rfl (fun hc9 => ?_) (fun hc9 => ?_)
                                · have hw := hw.1 hc9
                                  exact lB_law_586 X hR hK hA hsA hRc hX hsb hE k18 x3 nc ns ((t411, σ.2).1, t425) H locs ls (lv_sub hl [0, 1, 2, 3] rfl) hO hc hw
                                · have hw := hw.2 hc9
                                  refine lv_iconst (v := 0) X.1 X.2.1 dL_law_431 (by decide) ?_
                                  exact False.elim hw
                              · have hw := hw.2 h12
                                by_cases h13 : ((xs x3.toNatClampNeg) &&& (31 : Int32)) = 13
                                · have hw := hw.1 h13
                                  rw [h13]
                                  refine lv_tableIn (tgt := 433) (off := 401) X.1 X.2.1 dL_law_32 (by decide) (by decide) (by decide) rfl ?_
                                  refine lv_aload_n X.1 X.2.1 dL_law_433 rfl (lv_at hl 1 rfl) ?_
                                  refine lv_aload_n X.1 X.2.1 dL_law_434 rfl (lv_at hl 0 rfl) ?_
                                  refine lv_iload_n X.1 X.2.1 dL_law_435 rfl (lv_at hl 3 rfl) ?_
                                  refine lv_iconst (v := 1) X.1 X.2.1 dL_law_436 (by decide) ?_
                                  refine lv_iadd X.1 X.2.1 dL_law_437 ?_
                                  obtain ⟨g438, hw⟩ := hw
                                  refine va_sld X.1 X.2.1 hX hsb hsA hO.2.2 g438 dL_law_438 ?_
                                  refine lv_aload_n X.1 X.2.1 dL_law_439 rfl (lv_at hl 0 rfl) ?_
                                  refine lv_iload_n X.1 X.2.1 dL_law_440 rfl (lv_at hl 3 rfl) ?_
                                  refine lv_iconst (v := 2) X.1 X.2.1 dL_law_441 (by decide) ?_
                                  refine lv_iadd X.1 X.2.1 dL_law_442 ?_
                                  obtain ⟨g443, hw⟩ := hw
                                  refine va_sld X.1 X.2.1 hX hsb hsA hO.2.2 g443 dL_law_443 ?_
                                  refine lc_calli (rest := []) (As := [.int (xs (x3 + (1 : Int32)).toNatClampNeg), .int (xs (x3 + (2 : Int32)).toNatClampNeg)]) X (cC_X6_holder l dC dI b k σ.1 H.size (xs (x3 + (1 : Int32)).toNatClampNeg) (xs (x3 + (2 : Int32)).toNatClampNeg) _ hw) (cwV 2 X.2.2.2.2 gL_c_holder rfl rfl rfl hdL_c_holder ⟨Nat.le_trans (show 2 + 1 ≤ 27 by decide) hR.1, Nat.le_trans (show 8 + (6 + 11) + 44 ≤ 621 by decide) hR.2⟩) hK hA hO rfl hl.1 rfl (Nat.le_of_ble_eq_true rfl) dL_law_444 (by rw [hRc.1]; exact hc.1) (by rw [hRc.2]; exact hc.2) (fun r444 t444 H locs hO hw => ?_)
                                  refine lv_aload_n X.1 X.2.1 dL_law_447 rfl (lv_at hl 2 rfl) ?_
                                  refine lv_aload_n X.1 X.2.1 dL_law_448 rfl (lv_at hl 0 rfl) ?_
                                  refine lv_iload_n X.1 X.2.1 dL_law_449 rfl (lv_at hl 3 rfl) ?_
                                  refine lv_iconst (v := 1) X.1 X.2.1 dL_law_450 (by decide) ?_
                                  refine lv_iadd X.1 X.2.1 dL_law_451 ?_
                                  obtain ⟨g452, hw⟩ := hw
                                  refine va_sld X.1 X.2.1 hX hsb hsA hO.2.2 g452 dL_law_452 ?_
                                  refine lv_aload_n X.1 X.2.1 dL_law_453 rfl (lv_at hl 0 rfl) ?_
                                  refine lv_iload_n X.1 X.2.1 dL_law_454 rfl (lv_at hl 3 rfl) ?_
                                  refine lv_iconst (v := 2) X.1 X.2.1 dL_law_455 (by decide) ?_
                                  refine lv_iadd X.1 X.2.1 dL_law_456 ?_
                                  obtain ⟨g457, hw⟩ := hw
                                  refine va_sld X.1 X.2.1 hX hsb hsA hO.2.2 g457 dL_law_457 ?_
                                  refine lr_calli (rest := [.int r444]) (As := [.int (xs (x3 + (1 : Int32)).toNatClampNeg), .int (xs (x3 + (2 : Int32)).toNatClampNeg)]) X (rC_holder l dC dI h a (k 0) (k 1) (t444, σ.2).2 H.size (xs (x3 + (1 : Int32)).toNatClampNeg) (xs (x3 + (2 : Int32)).toNatClampNeg) _ hw) (cwV 2 X.2.2.2.2 gL_r_holder rfl rfl rfl hdL_r_holder ⟨Nat.le_trans (show 2 + 1 ≤ 27 by decide) hR.1, Nat.le_trans (show 8 + (6 + 11) + 45 ≤ 621 by decide) hR.2⟩) hK hA hO rfl hl.1 rfl (Nat.le_of_ble_eq_true rfl) dL_law_458 (by rw [hRc.1]; exact hc.1) (by rw [hRc.2]; exact hc.2) (fun r458 t458 H locs hO hw => ?_)
                                  refine lv_icmp_eq (tgt := 586) X.1 X.2.1 dL_law_461 rfl (fun hc9 => ?_) (fun hc9 => ?_)
                                  · have hw := hw.1 hc9
                                    exact lB_law_586 X hR hK hA hsA hRc hX hsb hE k18 x3 nc ns ((t444, σ.2).1, t458) H locs ls (lv_sub hl [0, 1, 2, 3] rfl) hO hc hw
                                  · have hw := hw.2 hc9
                                    refine lv_iconst (v := 0) X.1 X.2.1 dL_law_464 (by decide) ?_
                                    exact False.elim hw
                                · have hw := hw.2 h13
                                  by_cases h14 : ((xs x3.toNatClampNeg) &&& (31 : Int32)) = 14
                                  · have hw := hw.1 h14
                                    rw [h14]
                                    refine lv_tableIn (tgt := 466) (off := 434) X.1 X.2.1 dL_law_32 (by decide) (by decide) (by decide) rfl ?_
                                    refine lv_aload_n X.1 X.2.1 dL_law_466 rfl (lv_at hl 1 rfl) ?_
                                    refine lv_aload_n X.1 X.2.1 dL_law_467 rfl (lv_at hl 0 rfl) ?_
                                    refine lv_iload_n X.1 X.2.1 dL_law_468 rfl (lv_at hl 3 rfl) ?_
                                    refine lv_iconst (v := 1) X.1 X.2.1 dL_law_469 (by decide) ?_
                                    refine lv_iadd X.1 X.2.1 dL_law_470 ?_
                                    obtain ⟨g471, hw⟩ := hw
                                    refine va_sld X.1 X.2.1 hX hsb hsA hO.2.2 g471 dL_law_471 ?_
                                    refine lv_aload_n X.1 X.2.1 dL_law_472 rfl (lv_at hl 0 rfl) ?_
                                    refine lv_iload_n X.1 X.2.1 dL_law_473 rfl (lv_at hl 3 rfl) ?_
                                    refine lv_iconst (v := 2) X.1 X.2.1 dL_law_474 (by decide) ?_
                                    refine lv_iadd X.1 X.2.1 dL_law_475 ?_
                                    obtain ⟨g476, hw⟩ := hw
                                    refine va_sld X.1 X.2.1 hX hsb hsA hO.2.2 g476 dL_law_476 ?_
                                    refine lc_calli (rest := []) (As := [.int (xs (x3 + (1 : Int32)).toNatClampNeg), .int (xs (x3 + (2 : Int32)).toNatClampNeg)]) X (cC_X6_count l dC dI b k σ.1 H.size (xs (x3 + (1 : Int32)).toNatClampNeg) (xs (x3 + (2 : Int32)).toNatClampNeg) _ hw) (cwV 2 X.2.2.2.2 gL_c_count rfl rfl rfl hdL_c_count ⟨Nat.le_trans (show 3 + 1 ≤ 27 by decide) hR.1, Nat.le_trans (show 8 + (8 + 11) + 70 ≤ 621 by decide) hR.2⟩) hK hA hO rfl hl.1 rfl (Nat.le_of_ble_eq_true rfl) dL_law_477 (by rw [hRc.1]; exact hc.1) (by rw [hRc.2]; exact hc.2) (fun r477 t477 H locs hO hw => ?_)
                                    refine lv_aload_n X.1 X.2.1 dL_law_480 rfl (lv_at hl 2 rfl) ?_
                                    refine lv_aload_n X.1 X.2.1 dL_law_481 rfl (lv_at hl 0 rfl) ?_
                                    refine lv_iload_n X.1 X.2.1 dL_law_482 rfl (lv_at hl 3 rfl) ?_
                                    refine lv_iconst (v := 1) X.1 X.2.1 dL_law_483 (by decide) ?_
                                    refine lv_iadd X.1 X.2.1 dL_law_484 ?_
                                    obtain ⟨g485, hw⟩ := hw
                                    refine va_sld X.1 X.2.1 hX hsb hsA hO.2.2 g485 dL_law_485 ?_
                                    refine lv_aload_n X.1 X.2.1 dL_law_486 rfl (lv_at hl 0 rfl) ?_
                                    refine lv_iload_n X.1 X.2.1 dL_law_487 rfl (lv_at hl 3 rfl) ?_
                                    refine lv_iconst (v := 2) X.1 X.2.1 dL_law_488 (by decide) ?_
                                    refine lv_iadd X.1 X.2.1 dL_law_489 ?_
                                    obtain ⟨g490, hw⟩ := hw
                                    refine va_sld X.1 X.2.1 hX hsb hsA hO.2.2 g490 dL_law_490 ?_
                                    refine lr_calli (rest := [.int r477]) (As := [.int (xs (x3 + (1 : Int32)).toNatClampNeg), .int (xs (x3 + (2 : Int32)).toNatClampNeg)]) X (rC_count l dC dI h a (k 0) (k 1) (t477, σ.2).2 H.size (xs (x3 + (1 : Int32)).toNatClampNeg) (xs (x3 + (2 : Int32)).toNatClampNeg) _ hw) (cwV 2 X.2.2.2.2 gL_r_count rfl rfl rfl hdL_r_count ⟨Nat.le_trans (show 3 + 1 ≤ 27 by decide) hR.1, Nat.le_trans (show 8 + (7 + 11) + 77 ≤ 621 by decide) hR.2⟩) hK hA hO rfl hl.1 rfl (Nat.le_of_ble_eq_true rfl) dL_law_491 (by rw [hRc.1]; exact hc.1) (by rw [hRc.2]; exact hc.2) (fun r491 t491 H locs hO hw => ?_)
                                    refine lv_icmp_eq (tgt := 586) X.1 X.2.1 dL_law_494 rfl (fun hc9 => ?_) (fun hc9 => ?_)
                                    · have hw := hw.1 hc9
                                      exact lB_law_586 X hR hK hA hsA hRc hX hsb hE k18 x3 nc ns ((t477, σ.2).1, t491) H locs ls (lv_sub hl [0, 1, 2, 3] rfl) hO hc hw
                                    · have hw := hw.2 hc9
                                      refine lv_iconst (v := 0) X.1 X.2.1 dL_law_497 (by decide) ?_
                                      exact False.elim hw
                                  · have hw := hw.2 h14
                                    by_cases h15 : ((xs x3.toNatClampNeg) &&& (31 : Int32)) = 15
                                    · have hw := hw.1 h15
                                      rw [h15]
                                      refine lv_tableIn (tgt := 499) (off := 467) X.1 X.2.1 dL_law_32 (by decide) (by decide) (by decide) rfl ?_
                                      refine lv_aload_n X.1 X.2.1 dL_law_499 rfl (lv_at hl 1 rfl) ?_
                                      refine lv_aload_n X.1 X.2.1 dL_law_500 rfl (lv_at hl 0 rfl) ?_
                                      refine lv_iload_n X.1 X.2.1 dL_law_501 rfl (lv_at hl 3 rfl) ?_
                                      refine lv_iconst (v := 1) X.1 X.2.1 dL_law_502 (by decide) ?_
                                      refine lv_iadd X.1 X.2.1 dL_law_503 ?_
                                      obtain ⟨g504, hw⟩ := hw
                                      refine va_sld X.1 X.2.1 hX hsb hsA hO.2.2 g504 dL_law_504 ?_
                                      refine lv_aload_n X.1 X.2.1 dL_law_505 rfl (lv_at hl 0 rfl) ?_
                                      refine lv_iload_n X.1 X.2.1 dL_law_506 rfl (lv_at hl 3 rfl) ?_
                                      refine lv_iconst (v := 2) X.1 X.2.1 dL_law_507 (by decide) ?_
                                      refine lv_iadd X.1 X.2.1 dL_law_508 ?_
                                      obtain ⟨g509, hw⟩ := hw
                                      refine va_sld X.1 X.2.1 hX hsb hsA hO.2.2 g509 dL_law_509 ?_
                                      refine lc_calli (rest := []) (As := [.int (xs (x3 + (1 : Int32)).toNatClampNeg), .int (xs (x3 + (2 : Int32)).toNatClampNeg)]) X (cC_X6_meta l dC dI b k σ.1 H.size (xs (x3 + (1 : Int32)).toNatClampNeg) (xs (x3 + (2 : Int32)).toNatClampNeg) _ hw) (cwV 2 X.2.2.2.2 gL_c_meta rfl rfl rfl hdL_c_meta ⟨Nat.le_trans (show 2 + 1 ≤ 27 by decide) hR.1, Nat.le_trans (show 8 + (3 + 11) + 49 ≤ 621 by decide) hR.2⟩) hK hA hO rfl hl.1 rfl (Nat.le_of_ble_eq_true rfl) dL_law_510 (by rw [hRc.1]; exact hc.1) (by rw [hRc.2]; exact hc.2) (fun r510 t510 H locs hO hw => ?_)
                                      refine lv_aload_n X.1 X.2.1 dL_law_513 rfl (lv_at hl 2 rfl) ?_
                                      refine lv_aload_n X.1 X.2.1 dL_law_514 rfl (lv_at hl 0 rfl) ?_
                                      refine lv_iload_n X.1 X.2.1 dL_law_515 rfl (lv_at hl 3 rfl) ?_
                                      refine lv_iconst (v := 1) X.1 X.2.1 dL_law_516 (by decide) ?_
                                      refine lv_iadd X.1 X.2.1 dL_law_517 ?_
                                      obtain ⟨g518, hw⟩ := hw
                                      refine va_sld X.1 X.2.1 hX hsb hsA hO.2.2 g518 dL_law_518 ?_
                                      refine lv_aload_n X.1 X.2.1 dL_law_519 rfl (lv_at hl 0 rfl) ?_
                                      refine lv_iload_n X.1 X.2.1 dL_law_520 rfl (lv_at hl 3 rfl) ?_
                                      refine lv_iconst (v := 2) X.1 X.2.1 dL_law_521 (by decide) ?_
                                      refine lv_iadd X.1 X.2.1 dL_law_522 ?_
                                      obtain ⟨g523, hw⟩ := hw
                                      refine va_sld X.1 X.2.1 hX hsb hsA hO.2.2 g523 dL_law_523 ?_
                                      refine lr_calli (rest := [.int r510]) (As := [.int (xs (x3 + (1 : Int32)).toNatClampNeg), .int (xs (x3 + (2 : Int32)).toNatClampNeg)]) X (rC_meta l dC dI h a (k 0) (k 1) (t510, σ.2).2 H.size (xs (x3 + (1 : Int32)).toNatClampNeg) (xs (x3 + (2 : Int32)).toNatClampNeg) _ hw) (cwV 2 X.2.2.2.2 gL_r_meta rfl rfl rfl hdL_r_meta ⟨Nat.le_trans (show 3 + 1 ≤ 27 by decide) hR.1, Nat.le_trans (show 8 + (3 + 11) + 75 ≤ 621 by decide) hR.2⟩) hK hA hO rfl hl.1 rfl (Nat.le_of_ble_eq_true rfl) dL_law_524 (by rw [hRc.1]; exact hc.1) (by rw [hRc.2]; exact hc.2) (fun r524 t524 H locs hO hw => ?_)
                                      refine lv_icmp_eq (tgt := 586) X.1 X.2.1 dL_law_527 rfl (fun hc9 => ?_) (fun hc9 => ?_)
                                      · have hw := hw.1 hc9
                                        exact lB_law_586 X hR hK hA hsA hRc hX hsb hE k18 x3 nc ns ((t510, σ.2).1, t524) H locs ls (lv_sub hl [0, 1, 2, 3] rfl) hO hc hw
                                      · have hw := hw.2 hc9
                                        refine lv_iconst (v := 0) X.1 X.2.1 dL_law_530 (by decide) ?_
                                        exact False.elim hw
                                    · have hw := hw.2 h15
                                      by_cases h16 : ((xs x3.toNatClampNeg) &&& (31 : Int32)) = 16
                                      · have hw := hw.1 h16
                                        rw [h16]
                                        refine lv_tableIn (tgt := 532) (off := 500) X.1 X.2.1 dL_law_32 (by decide) (by decide) (by decide) rfl ?_
                                        refine lv_aload_n X.1 X.2.1 dL_law_532 rfl (lv_at hl 1 rfl) ?_
                                        refine lv_aload_n X.1 X.2.1 dL_law_533 rfl (lv_at hl 0 rfl) ?_
                                        refine lv_iload_n X.1 X.2.1 dL_law_534 rfl (lv_at hl 3 rfl) ?_
                                        refine lv_iconst (v := 1) X.1 X.2.1 dL_law_535 (by decide) ?_
                                        refine lv_iadd X.1 X.2.1 dL_law_536 ?_
                                        obtain ⟨g537, hw⟩ := hw
                                        refine va_sld X.1 X.2.1 hX hsb hsA hO.2.2 g537 dL_law_537 ?_
                                        refine lv_aload_n X.1 X.2.1 dL_law_538 rfl (lv_at hl 0 rfl) ?_
                                        refine lv_iload_n X.1 X.2.1 dL_law_539 rfl (lv_at hl 3 rfl) ?_
                                        refine lv_iconst (v := 2) X.1 X.2.1 dL_law_540 (by decide) ?_
                                        refine lv_iadd X.1 X.2.1 dL_law_541 ?_
                                        obtain ⟨g542, hw⟩ := hw
                                        refine va_sld X.1 X.2.1 hX hsb hsA hO.2.2 g542 dL_law_542 ?_
                                        refine lv_aload_n X.1 X.2.1 dL_law_543 rfl (lv_at hl 0 rfl) ?_
                                        refine lv_iload_n X.1 X.2.1 dL_law_544 rfl (lv_at hl 3 rfl) ?_
                                        refine lv_iconst (v := 3) X.1 X.2.1 dL_law_545 (by decide) ?_
                                        refine lv_iadd X.1 X.2.1 dL_law_546 ?_
                                        obtain ⟨g547, hw⟩ := hw
                                        refine va_sld X.1 X.2.1 hX hsb hsA hO.2.2 g547 dL_law_547 ?_
                                        refine lv_aload_n X.1 X.2.1 dL_law_548 rfl (lv_at hl 0 rfl) ?_
                                        refine lv_iload_n X.1 X.2.1 dL_law_549 rfl (lv_at hl 3 rfl) ?_
                                        refine lv_iconst (v := 4) X.1 X.2.1 dL_law_550 (by decide) ?_
                                        refine lv_iadd X.1 X.2.1 dL_law_551 ?_
                                        obtain ⟨g552, hw⟩ := hw
                                        refine va_sld X.1 X.2.1 hX hsb hsA hO.2.2 g552 dL_law_552 ?_
                                        refine lc_calll (rest := []) (As := [.int (xs (x3 + (1 : Int32)).toNatClampNeg), .int (xs (x3 + (2 : Int32)).toNatClampNeg), .int (xs (x3 + (3 : Int32)).toNatClampNeg), .int (xs (x3 + (4 : Int32)).toNatClampNeg)]) X (cC_X6_value l dC dI b k σ.1 H.size (xs (x3 + (1 : Int32)).toNatClampNeg) (xs (x3 + (2 : Int32)).toNatClampNeg) (xs (x3 + (3 : Int32)).toNatClampNeg) (xs (x3 + (4 : Int32)).toNatClampNeg) _ hw) (cwV 4 X.2.2.2.2 gL_c_value rfl rfl rfl hdL_c_value ⟨Nat.le_trans (show 3 + 1 ≤ 27 by decide) hR.1, Nat.le_trans (show 8 + (9 + 11) + 69 ≤ 621 by decide) hR.2⟩) hK hA hO rfl hl.1 rfl (Nat.le_of_ble_eq_true rfl) dL_law_553 (by rw [hRc.1]; exact hc.1) (by rw [hRc.2]; exact hc.2) (fun r553 t553 H locs hO hw => ?_)
                                        refine lv_aload_n X.1 X.2.1 dL_law_556 rfl (lv_at hl 2 rfl) ?_
                                        refine lv_aload_n X.1 X.2.1 dL_law_557 rfl (lv_at hl 0 rfl) ?_
                                        refine lv_iload_n X.1 X.2.1 dL_law_558 rfl (lv_at hl 3 rfl) ?_
                                        refine lv_iconst (v := 1) X.1 X.2.1 dL_law_559 (by decide) ?_
                                        refine lv_iadd X.1 X.2.1 dL_law_560 ?_
                                        obtain ⟨g561, hw⟩ := hw
                                        refine va_sld X.1 X.2.1 hX hsb hsA hO.2.2 g561 dL_law_561 ?_
                                        refine lv_aload_n X.1 X.2.1 dL_law_562 rfl (lv_at hl 0 rfl) ?_
                                        refine lv_iload_n X.1 X.2.1 dL_law_563 rfl (lv_at hl 3 rfl) ?_
                                        refine lv_iconst (v := 2) X.1 X.2.1 dL_law_564 (by decide) ?_
                                        refine lv_iadd X.1 X.2.1 dL_law_565 ?_
                                        obtain ⟨g566, hw⟩ := hw
                                        refine va_sld X.1 X.2.1 hX hsb hsA hO.2.2 g566 dL_law_566 ?_
                                        refine lv_aload_n X.1 X.2.1 dL_law_567 rfl (lv_at hl 0 rfl) ?_
                                        refine lv_iload_n X.1 X.2.1 dL_law_568 rfl (lv_at hl 3 rfl) ?_
                                        refine lv_iconst (v := 3) X.1 X.2.1 dL_law_569 (by decide) ?_
                                        refine lv_iadd X.1 X.2.1 dL_law_570 ?_
                                        obtain ⟨g571, hw⟩ := hw
                                        refine va_sld X.1 X.2.1 hX hsb hsA hO.2.2 g571 dL_law_571 ?_
                                        refine lv_aload_n X.1 X.2.1 dL_law_572 rfl (lv_at hl 0 rfl) ?_
                                        refine lv_iload_n X.1 X.2.1 dL_law_573 rfl (lv_at hl 3 rfl) ?_
                                        refine lv_iconst (v := 4) X.1 X.2.1 dL_law_574 (by decide) ?_
                                        refine lv_iadd X.1 X.2.1 dL_law_575 ?_
                                        obtain ⟨g576, hw⟩ := hw
                                        refine va_sld X.1 X.2.1 hX hsb hsA hO.2.2 g576 dL_law_576 ?_
                                        refine lr_calll (rest := [.long r553]) (As := [.int (xs (x3 + (1 : Int32)).toNatClampNeg), .int (xs (x3 + (2 : Int32)).toNatClampNeg), .int (xs (x3 + (3 : Int32)).toNatClampNeg), .int (xs (x3 + (4 : Int32)).toNatClampNeg)]) X (rC_value l dC dI h a (k 0) (k 1) (t553, σ.2).2 H.size (xs (x3 + (1 : Int32)).toNatClampNeg) (xs (x3 + (2 : Int32)).toNatClampNeg) (xs (x3 + (3 : Int32)).toNatClampNeg) (xs (x3 + (4 : Int32)).toNatClampNeg) _ hw) (cwV 4 X.2.2.2.2 gL_r_value rfl rfl rfl hdL_r_value ⟨Nat.le_trans (show 3 + 1 ≤ 27 by decide) hR.1, Nat.le_trans (show 8 + (10 + 11) + 70 ≤ 621 by decide) hR.2⟩) hK hA hO rfl hl.1 rfl (Nat.le_of_ble_eq_true rfl) dL_law_577 (by rw [hRc.1]; exact hc.1) (by rw [hRc.2]; exact hc.2) (fun r577 t577 H locs hO hw => ?_)
                                        refine W.lcmp X.1 X.2.1 dL_law_580 ?_
                                        refine lv_if_eq (tgt := 586) X.1 X.2.1 dL_law_581 rfl (fun hc9 => ?_) (fun hc9 => ?_)
                                        · have hw := hw.1 hc9
                                          exact lB_law_586 X hR hK hA hsA hRc hX hsb hE k18 x3 nc ns ((t553, σ.2).1, t577) H locs ls (lv_sub hl [0, 1, 2, 3] rfl) hO hc hw
                                        · have hw := hw.2 hc9
                                          refine lv_iconst (v := 0) X.1 X.2.1 dL_law_584 (by decide) ?_
                                          exact False.elim hw
                                      · have hw := hw.2 h16
                                        obtain ⟨hz9, hw⟩ := hw
                                        refine lv_tableOut (tgt := 586) X.1 X.2.1 dL_law_32 hz9 rfl ?_
                                        exact lB_law_586 X hR hK hA hsA hRc hX hsb hE k18 x3 nc ns σ H locs ls (lv_sub hl [0, 1, 2, 3] rfl) hO hc hw
end
