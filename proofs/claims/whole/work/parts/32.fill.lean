def RJ : String := "java/util/Arrays"
abbrev cJ_fill : ByteArray := prog_11_method_103_code
def yJ_fill : MethodName := ⟨RJ, "fill", "([II)V"⟩
abbrev wsJ_fill : List Cond := .code yJ_fill cJ_fill 4 none :: wG
set_option maxRecDepth 20000 in
theorem kJ_fill : Cond.code yJ_fill cJ_fill 4 none ∈ wG := wG_in (wT1 (List.mem_of_getElem? (i := 48) rfl)) rfl
theorem dJ_fill_0 : decode cJ_fill 0 = .ok (.iconst 0, 1) := by decide +kernel
theorem dJ_fill_1 : decode cJ_fill 1 = .ok (.istore_n 2, 1) := by decide +kernel
theorem dJ_fill_2 : decode cJ_fill 2 = .ok (.aload_n 0, 1) := by decide +kernel
theorem dJ_fill_3 : decode cJ_fill 3 = .ok (.arraylength, 1) := by decide +kernel
theorem dJ_fill_4 : decode cJ_fill 4 = .ok (.istore_n 3, 1) := by decide +kernel
theorem dJ_fill_5 : decode cJ_fill 5 = .ok (.iload_n 2, 1) := by decide +kernel
theorem dJ_fill_6 : decode cJ_fill 6 = .ok (.iload_n 3, 1) := by decide +kernel
theorem dJ_fill_7 : decode cJ_fill 7 = .ok (.if_icmp .ge 13, 3) := by decide +kernel
theorem dJ_fill_10 : decode cJ_fill 10 = .ok (.aload_n 0, 1) := by decide +kernel
theorem dJ_fill_11 : decode cJ_fill 11 = .ok (.iload_n 2, 1) := by decide +kernel
theorem dJ_fill_12 : decode cJ_fill 12 = .ok (.iload_n 1, 1) := by decide +kernel
theorem dJ_fill_13 : decode cJ_fill 13 = .ok (.iastore, 1) := by decide +kernel
theorem dJ_fill_14 : decode cJ_fill 14 = .ok (.iinc 2 1, 3) := by decide +kernel
theorem dJ_fill_17 : decode cJ_fill 17 = .ok (.goto (-12), 3) := by decide +kernel
theorem dJ_fill_20 : decode cJ_fill 20 = .ok (.return_, 1) := by decide +kernel
set_option maxRecDepth 20000 in
theorem gX1_fill {x : Cond} : GoodIn (x :: wG) (va_wsS RX1 25 yJ_fill wsJ_fill) := gW (List.forall_mem_cons.mpr ⟨wG_in (wT1 (List.mem_of_getElem? (i := 46) (by decide +kernel))) rfl, List.forall_mem_cons.mpr ⟨wG_in (wT1 (List.mem_of_getElem? (i := 47) (by decide +kernel))) rfl, List.forall_mem_cons.mpr ⟨wG_in (wT1 (List.mem_of_getElem? (i := 4) (by decide +kernel))) rfl, List.forall_mem_cons.mpr ⟨kJ_fill, fun _ h => h⟩⟩⟩⟩)
theorem hdJ_fill : yJ_fill.cls ≠ "java/lang/invoke/MethodHandle" ∧ yJ_fill.cls ≠ "java/lang/invoke/VarHandle" ∧ (parseMethodDescriptor yJ_fill.desc).map (fun d => d.parameters.length) = some 2 := by decide +kernel
def fillAt (dC : Nat → ClassId) (dI : Nat → Nat → Nat) (k : Nat → ClassId) (x n : Nat) (A : Nat → Prop) (g : Nat → Int32) (t : State) : Prop := va_P (dC, dI) vwCl [(x, .inl (k 0, n, .inl g))] t.heap ∧ cK2 dC dI k t ∧ va_D A [(x, .inl (k 0, n, .inl g))]
set_option maxHeartbeats 8000000 in
set_option maxRecDepth 100000 in
theorem jC_fill (l : Launch) (dC : Nat → ClassId) (dI : Nat → Nat → Nat) (k : Nat → ClassId) (x sz n : Nat) (hn : n < 2 ^ 31) (f : Nat → Int32) (v : Int32) : Met l yJ_fill wsJ_fill { frames := 0, cells := 0, slots := 0, locals := 0 } (va_Pc [.ref x, .int v] (fun U => U.heap.size = sz ∧ va_P (dC, dI) vwCl [(x, .inl (k 0, n, .inl f))] U.heap ∧ cK2 dC dI k U ∧ va_D (fun _ => True) [(x, .inl (k 0, n, .inl f))])) (va_Qv (fun g : Nat → Int32 => ∀ j, j < n → g j = v) (fillAt dC dI k x n (va_A [(x, .inl (k 0, n, .inl f))] sz)) (va_A [(x, .inl (k 0, n, .inl f))] sz)) 0 0 (va_A [(x, .inl (k 0, n, .inl f))] sz) := by
  refine Met.ofW (cc := cJ_fill) (maxL := 4) (ret := none) (by decide) rfl ?_
  intro p e s m args below meth c s₁ B hml hv
  obtain ⟨hargs, hsz, hP, hK, hD0⟩ := hv
  have hx := B.exec
  have hb := B.bytes
  have hr := B.returns
  have hlk := B.notSynchronized
  subst hsz
  subst hargs
  have hD := hD0.self (sz := s.heap.size)
  generalize hAe : va_A [(x, .inl (k 0, n, .inl f))] s.heap.size = A at hD ⊢
  have hS : va_S A s.heap s.heap [] := va_S.rf
  have hl := lv_entry ([.ref x, .int v]) (n := 4) (Nat.le_of_ble_eq_true rfl)
  rw [lg_entry_eq]
  generalize (lg_sl ([.ref x, .int v]) ++ List.replicate (4 - (lg_sl ([.ref x, .int v])).length) Slot.unset).toArray = ls at hl ⊢
  have hl : lv_has ls 4 [(0, .ref x), (1, .int v)] := hl
  have loop : ∀ (d i : Nat) (f : Nat → Int32) (H : Heap) (locs : List Loc) (ls : Array Slot), i + d = n → (∀ j, j < i → f j = v) → lv_has ls 4 [(0, .ref x), (1, .int v), (2, .int (nI i)), (3, .int (nI n))] → va_P (dC, dI) vwCl [(x, .inl (k 0, n, .inl f))] H → va_D A [(x, .inl (k 0, n, .inl f))] → va_S A s.heap H locs → W p l e (headSpec wsJ_fill { frames := 0, cells := 0, slots := 0, locals := 0 }).room s m ([.ref x, .int v] : List Value).toArray below meth c H locs 0 0 (MQ below (va_Qv (fun g : Nat → Int32 => ∀ j, j < n → g j = v) (fillAt dC dI k x n A) A) ([.ref x, .int v] : List Value).toArray s 0 0 A) (F0 m 5 ls []) := by
    intro d
    induction d with
    | zero =>
      intro i f H locs ls hi hf hl hP hD hS
      refine lv_iload_n hx hb dJ_fill_5 rfl (lv_at hl 2 rfl) ?_
      refine lv_iload_n hx hb dJ_fill_6 rfl (lv_at hl 3 rfl) ?_
      refine lv_icmp_ge (tgt := 20) hx hb dJ_fill_7 rfl (fun hc9 => ?_) (fun hc9 => ?_)
      · exact W.vret hx hb hr (fun t ht hW => ⟨⟨f, rfl, fun j hj => hf j (by omega), by rw [ht]; exact hP, hK.moved hW.alike, hD⟩, hS.F ht⟩) hS.2.2 dJ_fill_20 hlk
      · exact absurd (nI_le (by omega) (by omega)) hc9
    | succ d ih =>
      intro i f H locs ls hi hf hl hP hD hS
      refine lv_iload_n hx hb dJ_fill_5 rfl (lv_at hl 2 rfl) ?_
      refine lv_iload_n hx hb dJ_fill_6 rfl (lv_at hl 3 rfl) ?_
      refine lv_icmp_ge (tgt := 20) hx hb dJ_fill_7 rfl (fun hc9 => ?_) (fun hc9 => ?_)
      · exact absurd hc9 (nI_ge (by omega) (by omega))
      · refine lv_aload_n hx hb dJ_fill_10 rfl (lv_at hl 0 rfl) ?_
        refine lv_iload_n hx hb dJ_fill_11 rfl (lv_at hl 2 rfl) ?_
        refine lv_iload_n hx hb dJ_fill_12 rfl (lv_at hl 1 rfl) ?_
        refine va_iast hx hb hK.1.1 hP hD hS 0 0 rfl rfl (vp_in_nI (by omega) hn) dJ_fill_13 (fun H locs hP hD hS => ?_)
        rw [nI_clamp (by omega)] at hP hD
        have hP : va_P (dC, dI) vwCl [(x, .inl (k 0, n, .inl (upd f i v)))] H := hP
        have hD : va_D A [(x, .inl (k 0, n, .inl (upd f i v)))] := hD
        refine lv_iinc (lv' := [(2, .int (nI (i + 1))), (0, .ref x), (1, .int v), (3, .int (nI n))]) (k := 2) (v := nI (i + 1)) hx hb dJ_fill_14 hl rfl (nI_1 i) (by decide) rfl (fun ls hl => ?_)
        refine lv_goto (tgt := 5) hx hb dJ_fill_17 rfl ?_
        refine ih (i + 1) (upd f i v) H locs ls (by omega) (fun j hj => ?_) (lv_sub hl [1, 2, 0, 3] rfl) hP hD hS
        by_cases hji : j = i
        · rw [hji]; exact pk_us
        · rw [pk_un hji]; exact hf j (by omega)
  refine lv_iconst (v := 0) hx hb dJ_fill_0 (by decide) ?_
  refine lv_istore_n (lv' := [(2, .int 0), (0, .ref x), (1, .int v)]) hx hb dJ_fill_1 rfl hl (by decide) rfl (fun ls hl => ?_)
  refine lv_aload_n hx hb dJ_fill_2 rfl (lv_at hl 1 rfl) ?_
  refine va_alen hx hb hK.1.1 hP 0 0 rfl rfl (v := nI n) rfl dJ_fill_3 ?_
  refine lv_istore_n (lv' := [(3, .int (nI n)), (2, .int 0), (0, .ref x), (1, .int v)]) hx hb dJ_fill_4 rfl hl (by decide) rfl (fun ls hl => ?_)
  exact loop n 0 f s.heap [] ls (by omega) (fun j hj => absurd hj (Nat.not_lt_zero _)) (lv_sub hl [2, 3, 1, 0] rfl) hP hD hS
