theorem va_split {A0 : Nat → Prop} {D : va_G} {cl : List vw_C} {w1 w2 : va_W} {H : Heap} (hP : va_P D cl (w1 ++ w2) H) (hD : va_D A0 (w1 ++ w2)) : (va_P D cl w1 H ∧ va_D A0 w1) ∧ (va_P D cl w2 H ∧ va_D A0 w2) ∧ (∀ (i j : Nat) (x y : Nat × va_E), w1[i]? = some x → w2[j]? = some y → x.1 ≠ y.1) := by
  have f1 : ∀ (i : Nat) (x : Nat × va_E), w1[i]? = some x → (w1 ++ w2)[i]? = some x := fun i x h => by
    rw [List.getElem?_append_left (List.getElem?_eq_some_iff.mp h).1]; exact h
  have f2 : ∀ (j : Nat) (y : Nat × va_E), w2[j]? = some y → (w1 ++ w2)[w1.length + j]? = some y := fun j y h => by
    rw [List.getElem?_append_right (Nat.le_add_right _ _), Nat.add_sub_cancel_left]; exact h
  refine ⟨⟨fun i x h => hP i x (f1 i x h), fun i j x y hx hy e => hD.1 i j x y (f1 i x hx) (f1 j y hy) e, fun i x h => hD.2 i x (f1 i x h)⟩, ⟨fun i x h => hP _ x (f2 i x h), fun i j x y hx hy e => ?_, fun i x h => hD.2 _ x (f2 i x h)⟩, fun i j x y hx hy e => ?_⟩
  · have := hD.1 _ _ x y (f2 i x hx) (f2 j y hy) e
    omega
  · have h1 := hD.1 _ _ x y (f1 i x hx) (f2 j y hy) e
    have h2 := (List.getElem?_eq_some_iff.mp hx).1
    omega
theorem va_off {D : va_G} {cl : List vw_C} {w1 w2 : va_W} {H : Heap} (hP : va_P D cl w2 H) (hx : ∀ (i j : Nat) (x y : Nat × va_E), w1[i]? = some x → w2[j]? = some y → x.1 ≠ y.1) (j : Nat) (y : Nat × va_E) (hy : w2[j]? = some y) : y.1 < H.size ∧ ¬ va_A w1 H.size y.1 := by
  have hlt := (hP j y hy).lt
  refine ⟨hlt, fun hq => ?_⟩
  rcases hq with ⟨i, e, hi⟩ | hq
  · exact hx i j _ y hi hy rfl
  · omega
theorem va_joinL {A0 : Nat → Prop} {D : va_G} {cl : List vw_C} {w1 w2 w1' : va_W} {H H1 : Heap} (hP : va_P D cl (w1 ++ w2) H) (hD : va_D A0 (w1 ++ w2)) (hk : ∀ q : Nat, q < H.size → ¬ va_A w1 H.size q → H1[q]? = H[q]?) (hP1 : va_P D cl w1' H1) (hD1 : va_D (va_A w1 H.size) w1') (hF : ∀ q, va_A w1 H.size q → A0 q) : va_P D cl (w1' ++ w2) H1 ∧ va_D A0 (w1' ++ w2) := by
  obtain ⟨⟨-, -⟩, ⟨hP2, hD2⟩, hx⟩ := va_split hP hD
  refine ⟨hP1.app (hP2.kept (fun j y hy => hk y.1 (va_off hP2 hx j y hy).1 (va_off hP2 hx j y hy).2)), (hD1.weaken (fun _ q _ hq => hF q.1 hq)).app hD2 (fun i j x y hi hj e => ?_)⟩
  exact (va_off hP2 hx j y hj).2 (e ▸ hD1.2 i x hi)
theorem va_joinR {A0 : Nat → Prop} {D : va_G} {cl : List vw_C} {w1 w2 w2' : va_W} {H H1 : Heap} (hP : va_P D cl (w1 ++ w2) H) (hD : va_D A0 (w1 ++ w2)) (hk : ∀ q : Nat, q < H.size → ¬ va_A w2 H.size q → H1[q]? = H[q]?) (hP1 : va_P D cl w2' H1) (hD1 : va_D (va_A w2 H.size) w2') (hF : ∀ q, va_A w2 H.size q → A0 q) : va_P D cl (w1 ++ w2') H1 ∧ va_D A0 (w1 ++ w2') := by
  obtain ⟨⟨hP2, hD2⟩, ⟨-, -⟩, hx⟩ := va_split hP hD
  have hx' : ∀ (i j : Nat) (x y : Nat × va_E), w2[i]? = some x → w1[j]? = some y → x.1 ≠ y.1 := fun i j x y hi hj e => hx j i y x hj hi e.symm
  refine ⟨(hP2.kept (fun j y hy => hk y.1 (va_off hP2 hx' j y hy).1 (va_off hP2 hx' j y hy).2)).app hP1, hD2.app (hD1.weaken (fun _ q _ hq => hF q.1 hq)) (fun i j x y hi hj e => ?_)⟩
  exact (va_off hP2 hx' i x hi).2 (e ▸ hD1.2 j y hj)
/-- the law's world: the class's, then the reference's -/
def lCells (b : Nat → Nat) (k : Nat → ClassId) (h : Nat) (a : Nat → Nat) (σ : cS × rS) : va_W := cCells b k σ.1 ++ rCells h a (k 0) (k 1) σ.2
def lO (dC : Nat → ClassId) (dI : Nat → Nat → Nat) (b : Nat → Nat) (k : Nat → ClassId) (h : Nat) (a : Nat → Nat) (A : Nat → Prop) (H0 : Heap) (σ : cS × rS) (H : Heap) (locs : List Loc) : Prop := va_P (dC, dI) vwCl (lCells b k h a σ) H ∧ va_D A (lCells b k h a σ) ∧ va_S A H0 H locs
theorem lO_c {dC : Nat → ClassId} {dI : Nat → Nat → Nat} {b : Nat → Nat} {k : Nat → ClassId} {h : Nat} {a : Nat → Nat} {A : Nat → Prop} {H0 : Heap} {σ : cS × rS} {H : Heap} {locs : List Loc} (hO : lO dC dI b k h a A H0 σ H locs) : cO dC dI b k A H0 σ.1 H locs := ⟨(va_split hO.1 hO.2.1).1.1, (va_split hO.1 hO.2.1).1.2, hO.2.2⟩
theorem lO_r {dC : Nat → ClassId} {dI : Nat → Nat → Nat} {b : Nat → Nat} {k : Nat → ClassId} {h : Nat} {a : Nat → Nat} {A : Nat → Prop} {H0 : Heap} {σ : cS × rS} {H : Heap} {locs : List Loc} (hO : lO dC dI b k h a A H0 σ H locs) : rO dC dI h a (k 0) (k 1) A H0 σ.2 H locs := ⟨(va_split hO.1 hO.2.1).2.1.1, (va_split hO.1 hO.2.1).2.1.2, hO.2.2⟩
theorem cK_r {dC : Nat → ClassId} {dI : Nat → Nat → Nat} {k : Nat → ClassId} {s : State} (hK : cK dC dI k s) : va_K (dC, dI) vwCl [(k 0, .int), (k 1, .boolean)] s := hK.1.sub [0, 1] rfl
section
variable {p : Program} {l : Launch} {e : Env} {R : Room} {s : State} {m : MethodId} {args : Array Value} {below : List Frame} {meth : Method} {c : Code}
variable {dC : Nat → ClassId} {dI : Nat → Nat → Nat} {b : Nat → Nat} {k : Nat → ClassId} {h : Nat} {a : Nat → Nat} {A : Nat → Prop} {sb L MC MS : Nat} {xs : Nat → Int32} {QF : State → Prop} {cw : Cond}
variable {H : Heap} {locs : List Loc} {cells slots : Nat} {cc : ByteArray} {nL pc : Nat} {ls : Array Slot} {rest : List Value} {σ : cS × rS} {own : String}
set_option maxRecDepth 100000 in
theorem lc_calli {As st0 : List Value} {mc ms : Nat} {y : MethodName} {ws : List Cond} {rm : Room} {index n maxL : Nat} {bytes : ByteArray} {ret : Option FieldType} {Q' : Int32 → cS → Prop} (X : CallFix p m c cc nL s args (cw :: wG) own)
    (hM : Met l y ws rm (cPc dC dI b k H.size σ.1 (.ref (b 0) :: As)) (va_Qi Q' (cAt dC dI (va_A (cCells b k σ.1) H.size) b k) (va_A (cCells b k σ.1) H.size)) mc ms (va_A (cCells b k σ.1) H.size)) (cw9 : CallW R s args own RX6 index y bytes maxL ret ws rm mc ms n) (hK : cK dC dI k s) (hA : ∀ q, s.heap.size ≤ q → A q) (hO : lO dC dI b k h a A s.heap σ H locs)
    (hn : As.length = n) (hls : ls.size = nL) (hst : st0 = As.reverse ++ .ref (b 0) :: rest) (hcat : (rest.map fun v => v.category).sum ≤ 8) (hdg : decode cc pc = .ok (.invokevirtual index, 3)) (hf1 : cells + mc ≤ R.cells) (hf2 : slots + ms ≤ R.slots)
    (kk : ∀ (r : Int32) (σ' : cS) (H1 : Heap) (locs1 : List Loc), lO dC dI b k h a A s.heap (σ', σ.2) H1 locs1 → Q' r σ' → W p l e R s m args below meth c H1 locs1 (cells + mc) (slots + ms) QF (F0 m (pc + 3) ls (.int r :: rest))) : W p l e R s m args below meth c H locs cells slots QF (F0 m pc ls st0) := by
  have hFc := va_freeAll (lO_c hO).2.1 hO.2.2 hA
  refine va_calli (va_runV (rest := rest) X hM cw9 ⟨cPc_blind, cRecv_X6 hK (lO_c hO), cPc_pre hK (lO_c hO)⟩ rfl hn hls hst (lv_room hcat) hdg ⟨hf1, hf2⟩) hO.2.2 (fun q _ h => hFc q h) hFc (fun r σ' t H1 locs1 ht hvm hq hB hz1 hk1 hS => ?_)
  obtain ⟨hP1, hK1, hD1⟩ := hB
  rw [ht] at hP1
  have hj := va_joinL hO.1 hO.2.1 hk1 hP1 hD1 hFc
  exact kk r σ' H1 locs1 ⟨hj.1, hj.2, hS⟩ hq
set_option maxRecDepth 100000 in
theorem lr_calli {As st0 : List Value} {y : MethodName} {ws : List Cond} {rm : Room} {index n maxL : Nat} {bytes : ByteArray} {ret : Option FieldType} {Q' : Int32 → rS → Prop} (X : CallFix p m c cc nL s args (cw :: wG) own)
    (hM : Met l y ws rm (rPc dC dI h a (k 0) (k 1) H.size σ.2 (.ref h :: As)) (va_Qi Q' (rAt dC dI (va_A (rCells h a (k 0) (k 1) σ.2) H.size) h a (k 0) (k 1)) (va_A (rCells h a (k 0) (k 1) σ.2) H.size)) 0 0 (va_A (rCells h a (k 0) (k 1) σ.2) H.size)) (cw9 : CallW R s args own RX7 index y bytes maxL ret ws rm 0 0 n) (hK : cK dC dI k s) (hA : ∀ q, s.heap.size ≤ q → A q) (hO : lO dC dI b k h a A s.heap σ H locs)
    (hn : As.length = n) (hls : ls.size = nL) (hst : st0 = As.reverse ++ .ref (h) :: rest) (hcat : (rest.map fun v => v.category).sum ≤ 8) (hdg : decode cc pc = .ok (.invokevirtual index, 3)) (hf1 : cells + 0 ≤ R.cells) (hf2 : slots + 0 ≤ R.slots)
    (kk : ∀ (r : Int32) (σ' : rS) (H1 : Heap) (locs1 : List Loc), lO dC dI b k h a A s.heap (σ.1, σ') H1 locs1 → Q' r σ' → W p l e R s m args below meth c H1 locs1 (cells + 0) (slots + 0) QF (F0 m (pc + 3) ls (.int r :: rest))) : W p l e R s m args below meth c H locs cells slots QF (F0 m pc ls st0) := by
  have hFc := va_freeAll (lO_r hO).2.1 hO.2.2 hA
  refine va_calli (va_runV (rest := rest) X hM cw9 ⟨rPc_blind, va_recv hK.1 (lO_r hO).1 (ci := 7) (q0 := 0) rfl rfl, rPc_pre (cK_r hK) (lO_r hO)⟩ rfl hn hls hst (lv_room hcat) hdg ⟨hf1, hf2⟩) hO.2.2 (fun q _ h => hFc q h) hFc (fun r σ' t H1 locs1 ht hvm hq hB hz1 hk1 hS => ?_)
  obtain ⟨hP1, hK1, hD1⟩ := hB
  rw [ht] at hP1
  have hj := va_joinR hO.1 hO.2.1 hk1 hP1 hD1 hFc
  exact kk r σ' H1 locs1 ⟨hj.1, hj.2, hS⟩ hq
set_option maxRecDepth 100000 in
theorem lc_calll {As st0 : List Value} {mc ms : Nat} {y : MethodName} {ws : List Cond} {rm : Room} {index n maxL : Nat} {bytes : ByteArray} {ret : Option FieldType} {Q' : Int64 → cS → Prop} (X : CallFix p m c cc nL s args (cw :: wG) own)
    (hM : Met l y ws rm (cPc dC dI b k H.size σ.1 (.ref (b 0) :: As)) (va_Ql Q' (cAt dC dI (va_A (cCells b k σ.1) H.size) b k) (va_A (cCells b k σ.1) H.size)) mc ms (va_A (cCells b k σ.1) H.size)) (cw9 : CallW R s args own RX6 index y bytes maxL ret ws rm mc ms n) (hK : cK dC dI k s) (hA : ∀ q, s.heap.size ≤ q → A q) (hO : lO dC dI b k h a A s.heap σ H locs)
    (hn : As.length = n) (hls : ls.size = nL) (hst : st0 = As.reverse ++ .ref (b 0) :: rest) (hcat : (rest.map fun v => v.category).sum ≤ 8) (hdg : decode cc pc = .ok (.invokevirtual index, 3)) (hf1 : cells + mc ≤ R.cells) (hf2 : slots + ms ≤ R.slots)
    (kk : ∀ (r : Int64) (σ' : cS) (H1 : Heap) (locs1 : List Loc), lO dC dI b k h a A s.heap (σ', σ.2) H1 locs1 → Q' r σ' → W p l e R s m args below meth c H1 locs1 (cells + mc) (slots + ms) QF (F0 m (pc + 3) ls (.long r :: rest))) : W p l e R s m args below meth c H locs cells slots QF (F0 m pc ls st0) := by
  have hFc := va_freeAll (lO_c hO).2.1 hO.2.2 hA
  refine va_calll (va_runV (rest := rest) X hM cw9 ⟨cPc_blind, cRecv_X6 hK (lO_c hO), cPc_pre hK (lO_c hO)⟩ rfl hn hls hst (lv_room hcat) hdg ⟨hf1, hf2⟩) hO.2.2 (fun q _ h => hFc q h) hFc (fun r σ' t H1 locs1 ht hvm hq hB hz1 hk1 hS => ?_)
  obtain ⟨hP1, hK1, hD1⟩ := hB
  rw [ht] at hP1
  have hj := va_joinL hO.1 hO.2.1 hk1 hP1 hD1 hFc
  exact kk r σ' H1 locs1 ⟨hj.1, hj.2, hS⟩ hq
set_option maxRecDepth 100000 in
theorem lr_calll {As st0 : List Value} {y : MethodName} {ws : List Cond} {rm : Room} {index n maxL : Nat} {bytes : ByteArray} {ret : Option FieldType} {Q' : Int64 → rS → Prop} (X : CallFix p m c cc nL s args (cw :: wG) own)
    (hM : Met l y ws rm (rPc dC dI h a (k 0) (k 1) H.size σ.2 (.ref h :: As)) (va_Ql Q' (rAt dC dI (va_A (rCells h a (k 0) (k 1) σ.2) H.size) h a (k 0) (k 1)) (va_A (rCells h a (k 0) (k 1) σ.2) H.size)) 0 0 (va_A (rCells h a (k 0) (k 1) σ.2) H.size)) (cw9 : CallW R s args own RX7 index y bytes maxL ret ws rm 0 0 n) (hK : cK dC dI k s) (hA : ∀ q, s.heap.size ≤ q → A q) (hO : lO dC dI b k h a A s.heap σ H locs)
    (hn : As.length = n) (hls : ls.size = nL) (hst : st0 = As.reverse ++ .ref (h) :: rest) (hcat : (rest.map fun v => v.category).sum ≤ 8) (hdg : decode cc pc = .ok (.invokevirtual index, 3)) (hf1 : cells + 0 ≤ R.cells) (hf2 : slots + 0 ≤ R.slots)
    (kk : ∀ (r : Int64) (σ' : rS) (H1 : Heap) (locs1 : List Loc), lO dC dI b k h a A s.heap (σ.1, σ') H1 locs1 → Q' r σ' → W p l e R s m args below meth c H1 locs1 (cells + 0) (slots + 0) QF (F0 m (pc + 3) ls (.long r :: rest))) : W p l e R s m args below meth c H locs cells slots QF (F0 m pc ls st0) := by
  have hFc := va_freeAll (lO_r hO).2.1 hO.2.2 hA
  refine va_calll (va_runV (rest := rest) X hM cw9 ⟨rPc_blind, va_recv hK.1 (lO_r hO).1 (ci := 7) (q0 := 0) rfl rfl, rPc_pre (cK_r hK) (lO_r hO)⟩ rfl hn hls hst (lv_room hcat) hdg ⟨hf1, hf2⟩) hO.2.2 (fun q _ h => hFc q h) hFc (fun r σ' t H1 locs1 ht hvm hq hB hz1 hk1 hS => ?_)
  obtain ⟨hP1, hK1, hD1⟩ := hB
  rw [ht] at hP1
  have hj := va_joinR hO.1 hO.2.1 hk1 hP1 hD1 hFc
  exact kk r σ' H1 locs1 ⟨hj.1, hj.2, hS⟩ hq
set_option maxRecDepth 100000 in
theorem lc_callv {As st0 : List Value} {mc ms : Nat} {y : MethodName} {ws : List Cond} {rm : Room} {index n maxL : Nat} {bytes : ByteArray} {ret : Option FieldType} {Q' : cS → Prop} (X : CallFix p m c cc nL s args (cw :: wG) own)
    (hM : Met l y ws rm (cPc dC dI b k H.size σ.1 (.ref (b 0) :: As)) (va_Qv Q' (cAt dC dI (va_A (cCells b k σ.1) H.size) b k) (va_A (cCells b k σ.1) H.size)) mc ms (va_A (cCells b k σ.1) H.size)) (cw9 : CallW R s args own RX6 index y bytes maxL ret ws rm mc ms n) (hK : cK dC dI k s) (hA : ∀ q, s.heap.size ≤ q → A q) (hO : lO dC dI b k h a A s.heap σ H locs)
    (hn : As.length = n) (hls : ls.size = nL) (hst : st0 = As.reverse ++ .ref (b 0) :: rest) (hcat : (rest.map fun v => v.category).sum ≤ 8) (hdg : decode cc pc = .ok (.invokevirtual index, 3)) (hf1 : cells + mc ≤ R.cells) (hf2 : slots + ms ≤ R.slots)
    (kk : ∀ (σ' : cS) (H1 : Heap) (locs1 : List Loc), lO dC dI b k h a A s.heap (σ', σ.2) H1 locs1 → Q' σ' → W p l e R s m args below meth c H1 locs1 (cells + mc) (slots + ms) QF (F0 m (pc + 3) ls (rest))) : W p l e R s m args below meth c H locs cells slots QF (F0 m pc ls st0) := by
  have hFc := va_freeAll (lO_c hO).2.1 hO.2.2 hA
  refine va_callv (va_runV (rest := rest) X hM cw9 ⟨cPc_blind, cRecv_X6 hK (lO_c hO), cPc_pre hK (lO_c hO)⟩ rfl hn hls hst (lv_room hcat) hdg ⟨hf1, hf2⟩) hO.2.2 (fun q _ h => hFc q h) hFc (fun σ' t H1 locs1 ht hvm hq hB hz1 hk1 hS => ?_)
  obtain ⟨hP1, hK1, hD1⟩ := hB
  rw [ht] at hP1
  have hj := va_joinL hO.1 hO.2.1 hk1 hP1 hD1 hFc
  exact kk σ' H1 locs1 ⟨hj.1, hj.2, hS⟩ hq
set_option maxRecDepth 100000 in
theorem lr_callv {As st0 : List Value} {y : MethodName} {ws : List Cond} {rm : Room} {index n maxL : Nat} {bytes : ByteArray} {ret : Option FieldType} {Q' : rS → Prop} (X : CallFix p m c cc nL s args (cw :: wG) own)
    (hM : Met l y ws rm (rPc dC dI h a (k 0) (k 1) H.size σ.2 (.ref h :: As)) (va_Qv Q' (rAt dC dI (va_A (rCells h a (k 0) (k 1) σ.2) H.size) h a (k 0) (k 1)) (va_A (rCells h a (k 0) (k 1) σ.2) H.size)) 0 0 (va_A (rCells h a (k 0) (k 1) σ.2) H.size)) (cw9 : CallW R s args own RX7 index y bytes maxL ret ws rm 0 0 n) (hK : cK dC dI k s) (hA : ∀ q, s.heap.size ≤ q → A q) (hO : lO dC dI b k h a A s.heap σ H locs)
    (hn : As.length = n) (hls : ls.size = nL) (hst : st0 = As.reverse ++ .ref (h) :: rest) (hcat : (rest.map fun v => v.category).sum ≤ 8) (hdg : decode cc pc = .ok (.invokevirtual index, 3)) (hf1 : cells + 0 ≤ R.cells) (hf2 : slots + 0 ≤ R.slots)
    (kk : ∀ (σ' : rS) (H1 : Heap) (locs1 : List Loc), lO dC dI b k h a A s.heap (σ.1, σ') H1 locs1 → Q' σ' → W p l e R s m args below meth c H1 locs1 (cells + 0) (slots + 0) QF (F0 m (pc + 3) ls (rest))) : W p l e R s m args below meth c H locs cells slots QF (F0 m pc ls st0) := by
  have hFc := va_freeAll (lO_r hO).2.1 hO.2.2 hA
  refine va_callv (va_runV (rest := rest) X hM cw9 ⟨rPc_blind, va_recv hK.1 (lO_r hO).1 (ci := 7) (q0 := 0) rfl rfl, rPc_pre (cK_r hK) (lO_r hO)⟩ rfl hn hls hst (lv_room hcat) hdg ⟨hf1, hf2⟩) hO.2.2 (fun q _ h => hFc q h) hFc (fun σ' t H1 locs1 ht hvm hq hB hz1 hk1 hS => ?_)
  obtain ⟨hP1, hK1, hD1⟩ := hB
  rw [ht] at hP1
  have hj := va_joinR hO.1 hO.2.1 hk1 hP1 hD1 hFc
  exact kk σ' H1 locs1 ⟨hj.1, hj.2, hS⟩ hq
end
