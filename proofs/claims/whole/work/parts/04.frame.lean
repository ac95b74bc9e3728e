/-! the frame: one context, one world, one form of contract for all methods -/
theorem uw_all : wsL_law.all goodWord = true := by decide +kernel
theorem uw_good {w : Cond} (h : w ∈ wsL_law) : (w.onTables && w.keeps) = true ∨ ∃ ty, w = .arrayClass ty := good_of_word (List.all_eq_true.mp uw_all w h)
def cw (y : MethodName) (b : ByteArray) (n : Nat) (r : Option FieldType) : List Cond := .code y b n r :: wsL_law
theorem cw_good {y y2 : MethodName} {b b2 : ByteArray} {n n2 : Nat} {r r2 : Option FieldType} (h : Cond.code y2 b2 n2 r2 ∈ wsL_law) : GoodIn (cw y b n r) (cw y2 b2 n2 r2) := fun w hw => by
  rcases List.mem_cons.mp hw with e | e
  · rw [e]; exact ⟨List.mem_cons_of_mem _ h, uw_good h⟩
  · exact ⟨List.mem_cons_of_mem _ e, uw_good e⟩
theorem uw_cw {y2 : MethodName} {b2 : ByteArray} {n2 : Nat} {r2 : Option FieldType} (h : Cond.code y2 b2 n2 r2 ∈ wsL_law) : GoodIn wsL_law (cw y2 b2 n2 r2) := fun w hw => by
  rcases List.mem_cons.mp hw with e | e
  · rw [e]; exact ⟨h, uw_good h⟩
  · exact ⟨e, uw_good e⟩
def rl (d : Nat) : Room := { frames := d, cells := 0, slots := 0, locals := 40 * d }
def KK (D : va_G) (cI cJ : ClassId) (U : State) : Prop := va_K D vwCl [(cI, .int), (cJ, .long)] U ∧ va_Nw (.methodLinkNest RX2 55 yX6_isIn "MudShares") U ∧ va_Nw (.methodLinkNest RX0 69 yX6_isIn "MudShares") U
theorem KK.warm {D : va_G} {cI cJ : ClassId} {s U : State} (hW : s.WarmedH U.vm) (h : KK D cI cJ s) : KK D cI cJ U := ⟨va_K.moved hW.alike h.1, va_Nw.warmM hW h.2.1, va_Nw.warmM hW h.2.2⟩
def PRE (D : va_G) (cI cJ : ClassId) (W0 : va_W) (sz : Nat) (U : State) : Prop := U.heap.size = sz ∧ va_P D vwCl W0 U.heap ∧ KK D cI cJ U ∧ va_D (fun _ => True) W0
theorem PRE.blind {D : va_G} {cI cJ : ClassId} {W0 : va_W} {sz : Nat} {av : List Value} : FrameBlind (va_Pc av (PRE D cI cJ W0 sz)) := fun a U g mk q => by
  obtain ⟨q0, q1, qP, qK, qD⟩ := q
  exact ⟨q0, q1, qP, ⟨va_K.moved (u := U) (U := U.calling g mk a) (Vm.Alike.refl U.vm) qK.1, va_Nw.same (u := U) (U := U.calling g mk a) rfl rfl qK.2.1, va_Nw.same (u := U) (U := U.calling g mk a) rfl rfl qK.2.2⟩, qD⟩
abbrev QB (D : va_G) (W1 : va_W) (A : Nat → Prop) : Unit → State → Prop := fun _ t => va_P D vwCl W1 t.heap ∧ va_D A W1
def QI (D : va_G) (W1 : va_W) (v : Int32) (A : Nat → Prop) : Array Value → State → Outcome → State → Prop := va_Qi (fun r (_ : Unit) => r = v) (QB D W1 A) A
def QL (D : va_G) (W1 : va_W) (v : Int64) (A : Nat → Prop) : Array Value → State → Outcome → State → Prop := va_Ql (fun r (_ : Unit) => r = v) (QB D W1 A) A
def QV (D : va_G) (W1 : va_W) (A : Nat → Prop) : Array Value → State → Outcome → State → Prop := va_Qv (fun (_ : Unit) => True) (QB D W1 A) A
/-- a contract: from the world W0 the method answers v and leaves the world W1; nothing new is made -/
def CI (l : Launch) (y : MethodName) (b : ByteArray) (n : Nat) (rt : FieldType) (d : Nat) (D : va_G) (cI cJ : ClassId) (av : List Value) (W0 W1 : va_W) (v : Int32) : Prop :=
  ∀ sz, Met l y (cw y b n (some rt)) (rl d) (va_Pc av (PRE D cI cJ W0 sz)) (QI D W1 v (va_A W0 sz)) 0 0 (va_A W0 sz)
def CL (l : Launch) (y : MethodName) (b : ByteArray) (n : Nat) (d : Nat) (D : va_G) (cI cJ : ClassId) (av : List Value) (W0 W1 : va_W) (v : Int64) : Prop :=
  ∀ sz, Met l y (cw y b n (some .long)) (rl d) (va_Pc av (PRE D cI cJ W0 sz)) (QL D W1 v (va_A W0 sz)) 0 0 (va_A W0 sz)
def CV (l : Launch) (y : MethodName) (b : ByteArray) (n : Nat) (d : Nat) (D : va_G) (cI cJ : ClassId) (av : List Value) (W0 W1 : va_W) : Prop :=
  ∀ sz, Met l y (cw y b n none) (rl d) (va_Pc av (PRE D cI cJ W0 sz)) (QV D W1 (va_A W0 sz)) 0 0 (va_A W0 sz)
/-- what holds all along a walk -/
def Cx (p : Program) (m : MethodId) (c : Code) (cc : ByteArray) (nL : Nat) (s : State) (args : Array Value) (own : String) (D : va_G) (cI cJ : ClassId) : Prop :=
  p.tables.exec = Jvm.exec ∧ c.code = cc ∧ c.maxLocals = nL ∧ s.vm.findClass own = some m.cls ∧ (∀ w ∈ wsL_law, w.before args s = true) ∧ KK D cI cJ s
def Wd (D : va_G) (A : Nat → Prop) (H0 H : Heap) (locs : List Loc) (ws : va_W) : Prop := va_P D vwCl ws H ∧ va_D A ws ∧ va_S A H0 H locs ∧ ∀ q : Nat, H0.size ≤ q → A q
theorem Wd.as {D : va_G} {A : Nat → Prop} {H0 H : Heap} {locs : List Loc} {ws ws' : va_W} (h : Wd D A H0 H locs ws) (e : ws = ws') : Wd D A H0 H locs ws' := e ▸ h
theorem fr_entry {l : Launch} {y : MethodName} {b : ByteArray} {n d : Nat} {ret : Option FieldType} {D : va_G} {cI cJ : ClassId} {av : List Value} {W0 : va_W} {Qc : (Nat → Prop) → Array Value → State → Outcome → State → Prop}
    (hy : plainName y.cls = true) (hn : Nat.ble (lg_sl av).length n = true)
    (body : ∀ (p : Program) (e : Env) (s : State) (m : MethodId) (below : List Frame) (meth : Method) (c : Code) (A : Nat → Prop), Cx p m c b n s av.toArray y.cls D cI cJ → meth.sig.returnType = ret → meth.locks = false → Wd D A s.heap s.heap [] W0 → ∀ ls : Array Slot, lv_has ls n (lv_args 0 av) →
      W p l e (rl d) s m av.toArray below meth c s.heap [] 0 0 (MQ below (Qc A) av.toArray s 0 0 A) (F0 m 0 ls [])) :
    ∀ sz, Met l y (cw y b n ret) (rl d) (va_Pc av (PRE D cI cJ W0 sz)) (Qc (va_A W0 sz)) 0 0 (va_A W0 sz) := by
  intro sz
  refine Met.ofW (cc := b) (maxL := n) (ret := ret) hy rfl ?_
  intro p e s m args below meth c s₁ B hml hv
  obtain ⟨rfl, hsz, hP, hK, hD0⟩ := hv
  have hts := atoms_spec (ws := cw y b n ret) B.pre
  have hown : s.vm.findClass y.cls = some m.cls := findClass_of_methodNamed B.named
  subst hsz
  have hD := hD0.self (sz := s.heap.size)
  have hl := lv_entry av (n := n) (Nat.le_of_ble_eq_true hn)
  rw [lg_entry_eq]
  exact body p e s m below meth c _ ⟨B.exec, B.bytes, hml, hown, fun w h => hts w (List.mem_cons_of_mem _ h), hK⟩ B.returns B.notSynchronized ⟨hP, hD, va_S.rf, fun q h => Or.inr h⟩ _ hl
theorem fr_entryI {l : Launch} {y : MethodName} {b : ByteArray} {n d : Nat} {rt : FieldType} {v : Int32} {D : va_G} {cI cJ : ClassId} {av : List Value} {W0 W1 : va_W} (hy : plainName y.cls = true) (hn : Nat.ble (lg_sl av).length n = true)
    (body : ∀ (p : Program) (e : Env) (s : State) (m : MethodId) (args : Array Value) (below : List Frame) (meth : Method) (c : Code) (A : Nat → Prop) (Q : State → Prop) (H : Heap) (locs : List Loc), Q = MQ below (QI D W1 v A) args s 0 0 A → Cx p m c b n s args y.cls D cI cJ → meth.sig.returnType = some rt → meth.locks = false → Wd D A s.heap H locs W0 → ∀ ls : Array Slot, lv_has ls n (lv_args 0 av) →
      W p l e (rl d) s m args below meth c H locs 0 0 Q (F0 m 0 ls [])) : CI l y b n rt d D cI cJ av W0 W1 v :=
  fr_entry (Qc := fun A => QI D W1 v A) hy hn (fun p e s m below meth c A C0 h1 h2 w ls hl => body p e s m _ below meth c A _ _ _ rfl C0 h1 h2 w ls hl)
theorem fr_entryL {l : Launch} {y : MethodName} {b : ByteArray} {n d : Nat} {v : Int64} {D : va_G} {cI cJ : ClassId} {av : List Value} {W0 W1 : va_W} (hy : plainName y.cls = true) (hn : Nat.ble (lg_sl av).length n = true)
    (body : ∀ (p : Program) (e : Env) (s : State) (m : MethodId) (args : Array Value) (below : List Frame) (meth : Method) (c : Code) (A : Nat → Prop) (Q : State → Prop) (H : Heap) (locs : List Loc), Q = MQ below (QL D W1 v A) args s 0 0 A → Cx p m c b n s args y.cls D cI cJ → meth.sig.returnType = some .long → meth.locks = false → Wd D A s.heap H locs W0 → ∀ ls : Array Slot, lv_has ls n (lv_args 0 av) →
      W p l e (rl d) s m args below meth c H locs 0 0 Q (F0 m 0 ls [])) : CL l y b n d D cI cJ av W0 W1 v :=
  fr_entry (Qc := fun A => QL D W1 v A) hy hn (fun p e s m below meth c A C0 h1 h2 w ls hl => body p e s m _ below meth c A _ _ _ rfl C0 h1 h2 w ls hl)
theorem fr_entryV {l : Launch} {y : MethodName} {b : ByteArray} {n d : Nat}  {D : va_G} {cI cJ : ClassId} {av : List Value} {W0 W1 : va_W} (hy : plainName y.cls = true) (hn : Nat.ble (lg_sl av).length n = true)
    (body : ∀ (p : Program) (e : Env) (s : State) (m : MethodId) (args : Array Value) (below : List Frame) (meth : Method) (c : Code) (A : Nat → Prop) (Q : State → Prop) (H : Heap) (locs : List Loc), Q = MQ below (QV D W1 A) args s 0 0 A → Cx p m c b n s args y.cls D cI cJ → meth.sig.returnType = none → meth.locks = false → Wd D A s.heap H locs W0 → ∀ ls : Array Slot, lv_has ls n (lv_args 0 av) →
      W p l e (rl d) s m args below meth c H locs 0 0 Q (F0 m 0 ls [])) : CV l y b n d D cI cJ av W0 W1 :=
  fr_entry (Qc := fun A => QV D W1 A) hy hn (fun p e s m below meth c A C0 h1 h2 w ls hl => body p e s m _ below meth c A _ _ _ rfl C0 h1 h2 w ls hl)
/-- a field: of which object kind, which place, its link among the words -/
def FG (own : String) (idx ci k : Nat) : Prop := ∃ (C : String) (T : u_T) (N : Nat), vwCl[ci]? = some (C, T, N) ∧ k < N ∧ (∀ w ∈ u_ws C T N, w ∈ wsL_law) ∧ Cond.fieldLink own idx (T k).1 (T k).2.1 (T k).2.2.1 ∈ wsL_law
def FP (own : String) (idx ci k : Nat) (ty : FieldType) : Prop := ∃ (C : String) (T : u_T) (N : Nat) (ty0 : Nat → FieldType), vwCl[ci]? = some (C, T, N) ∧ k < N ∧ (∀ w ∈ u_ws C T N, w ∈ wsL_law) ∧ Cond.fieldLink own idx (T k).1 (T k).2.1 (T k).2.2.1 ∈ wsL_law ∧ (∀ k, k < N → parseFieldDescriptor (T k).2.2.1 = some (ty0 k)) ∧ (∀ a, a < N → ∀ b, b < N → a ≠ b → (T a).2.1 ≠ (T b).2.1) ∧ (T k).2.2.2 = false ∧ parseFieldDescriptor (T k).2.2.1 = some ty
section FR
variable {p : Program} {l : Launch} {e : Env} {R : Room} {s : State} {m : MethodId} {args : Array Value} {below : List Frame} {meth : Method} {c : Code} {H : Heap} {locs : List Loc} {cells slots : Nat} {Q : State → Prop}
variable {cc : ByteArray} {pc nL : Nat} {ls : Array Slot} {rest : List Value} {D : va_G} {A : Nat → Prop} {a : Nat} {ws : va_W} {own : String} {cI cJ : ClassId}
theorem fr_get (C : Cx p m c cc nL s args own D cI cJ) (w : Wd D A s.heap H locs ws) {idx ci k : Nat} (f : FG own idx ci k) (q0 : Nat) {fs : List Value} (he : ws[q0]? = some (a, .inr (ci, fs))) {v : Value} (hv : fs[k]? = some v) (hdg : decode cc pc = .ok (.getfield idx, 3))
    (kk : W p l e R s m args below meth c H locs cells slots Q (F0 m (pc + 3) ls (v :: rest))) : W p l e R s m args below meth c H locs cells slots Q (F0 m pc ls (.ref a :: rest)) := by
  obtain ⟨Cn, T, N, hc, hk, hin, hlk⟩ := f
  obtain ⟨hx, hb, hml, hown, hts, hK⟩ := C
  exact va_get hx hb hts hin hown hK.1 w.1 q0 he hc k hk (hts _ hlk) (fun _ h9 => h9) hv hdg kk
theorem fr_put (C : Cx p m c cc nL s args own D cI cJ) (w : Wd D A s.heap H locs ws) {idx ci k : Nat} {ty : FieldType} (f : FP own idx ci k ty) (q0 : Nat) {fs : List Value} (he : ws[q0]? = some (a, .inr (ci, fs))) {v : Value} (hn : narrow ty v = v) (hfit : fits ty v = true) (hl : Nat.blt k fs.length = true) {ws' : va_W} (hw : ws.set q0 (a, .inr (ci, fs.set k v)) = ws') (hdg : decode cc pc = .ok (.putfield idx, 3))
    (kk : ∀ (H : Heap) (locs : List Loc), Wd D A s.heap H locs ws' → W p l e R s m args below meth c H locs cells slots Q (F0 m (pc + 3) ls rest)) : W p l e R s m args below meth c H locs cells slots Q (F0 m pc ls (v :: .ref a :: rest)) := by
  obtain ⟨Cn, T, N, ty0, hc, hk, hin, hlk, hty, hnm, hfin, hd⟩ := f
  obtain ⟨hx, hb, hml, hown, hts, hK⟩ := C
  subst hw
  exact va_put hx hb hts hin ty0 hty hnm hown hK.1 w.1 w.2.1 w.2.2.1 q0 he hc k hk (hts _ hlk) (fun _ h9 => h9) hfin hd hn hfit (Nat.le_of_ble_eq_true hl) hdg (fun H1 locs1 h1 h2 h3 => kk H1 locs1 ⟨h1, h2, h3, w.2.2.2⟩)
theorem fr_iald (C : Cx p m c cc nL s args own D cI cJ) (w : Wd D A s.heap H locs ws) (q0 : Nat) {n : Nat} {f : Nat → Int32} (ha : ws[q0]? = some (a, .inl (cI, n, .inl f))) {i : Int32} (hin : vp_in i n) (hdg : decode cc pc = .ok (.iaload, 1))
    (kk : W p l e R s m args below meth c H locs cells slots Q (F0 m (pc + 1) ls (.int (f i.toNatClampNeg) :: rest))) : W p l e R s m args below meth c H locs cells slots Q (F0 m pc ls (.int i :: .ref a :: rest)) :=
  va_iald C.1 C.2.1 C.2.2.2.2.2.1 w.1 q0 0 ha rfl hin hdg kk
theorem fr_lald (C : Cx p m c cc nL s args own D cI cJ) (w : Wd D A s.heap H locs ws) (q0 : Nat) {n : Nat} {f : Nat → Int64} (ha : ws[q0]? = some (a, .inl (cJ, n, .inr (.inl f)))) {i : Int32} (hin : vp_in i n) (hdg : decode cc pc = .ok (.laload, 1))
    (kk : W p l e R s m args below meth c H locs cells slots Q (F0 m (pc + 1) ls (.long (f i.toNatClampNeg) :: rest))) : W p l e R s m args below meth c H locs cells slots Q (F0 m pc ls (.int i :: .ref a :: rest)) :=
  va_lald C.1 C.2.1 C.2.2.2.2.2.1 w.1 q0 1 ha rfl hin hdg kk
theorem fr_iast (C : Cx p m c cc nL s args own D cI cJ) (w : Wd D A s.heap H locs ws) (q0 : Nat) {n : Nat} {f : Nat → Int32} (ha : ws[q0]? = some (a, .inl (cI, n, .inl f))) {i x : Int32} (hin : vp_in i n) {ws' : va_W} (hw : ws.set q0 (a, .inl (cI, n, .inl (upd f i.toNatClampNeg x))) = ws') (hdg : decode cc pc = .ok (.iastore, 1))
    (kk : ∀ (H : Heap) (locs : List Loc), Wd D A s.heap H locs ws' → W p l e R s m args below meth c H locs cells slots Q (F0 m (pc + 1) ls rest)) : W p l e R s m args below meth c H locs cells slots Q (F0 m pc ls (.int x :: .int i :: .ref a :: rest)) := by
  subst hw
  exact va_iast C.1 C.2.1 C.2.2.2.2.2.1 w.1 w.2.1 w.2.2.1 q0 0 ha rfl hin hdg (fun H1 locs1 h1 h2 h3 => kk H1 locs1 ⟨h1, h2, h3, w.2.2.2⟩)
theorem fr_last (C : Cx p m c cc nL s args own D cI cJ) (w : Wd D A s.heap H locs ws) (q0 : Nat) {n : Nat} {f : Nat → Int64} (ha : ws[q0]? = some (a, .inl (cJ, n, .inr (.inl f)))) {i : Int32} {x : Int64} (hin : vp_in i n) {ws' : va_W} (hw : ws.set q0 (a, .inl (cJ, n, .inr (.inl (vp_updL f i.toNatClampNeg x)))) = ws') (hdg : decode cc pc = .ok (.lastore, 1))
    (kk : ∀ (H : Heap) (locs : List Loc), Wd D A s.heap H locs ws' → W p l e R s m args below meth c H locs cells slots Q (F0 m (pc + 1) ls rest)) : W p l e R s m args below meth c H locs cells slots Q (F0 m pc ls (.long x :: .int i :: .ref a :: rest)) := by
  subst hw
  exact va_last C.1 C.2.1 C.2.2.2.2.2.1 w.1 w.2.1 w.2.2.1 q0 1 ha rfl hin hdg (fun H1 locs1 h1 h2 h3 => kk H1 locs1 ⟨h1, h2, h3, w.2.2.2⟩)
/-- lcmp and the branch behind it -/
theorem fr_lle (hx : p.tables.exec = Jvm.exec) (hb : c.code = cc) {x y : Int64} {off : Int} {tgt : Nat} (h1 : decode cc pc = .ok (.lcmp, 1)) (h2 : decode cc (pc + 1) = .ok (.ifCond .le off, 3)) (ht : ((pc + 1 : Nat) : Int) + off = (tgt : Int))
    (kt : x ≤ y → W p l e R s m args below meth c H locs cells slots Q (F0 m tgt ls rest)) (kf : ¬ x ≤ y → W p l e R s m args below meth c H locs cells slots Q (F0 m (pc + 4) ls rest)) : W p l e R s m args below meth c H locs cells slots Q (F0 m pc ls (.long y :: .long x :: rest)) := by
  refine W.lcmp hx hb h1 (lv_if_le hx hb h2 ht (fun h => kt ?_) (fun h => kf ?_)) <;>
  · unfold lg_cmp at h
    simp only [gt_iff_lt, Int64.lt_iff_toInt_lt, Int64.le_iff_toInt_le, ← Int64.toInt_inj] at h ⊢
    split at h <;> (try split at h) <;> first | omega | (simp at h; try omega) | (exfalso; revert h; decide)
theorem fr_lgt (hx : p.tables.exec = Jvm.exec) (hb : c.code = cc) {x y : Int64} {off : Int} {tgt : Nat} (h1 : decode cc pc = .ok (.lcmp, 1)) (h2 : decode cc (pc + 1) = .ok (.ifCond .gt off, 3)) (ht : ((pc + 1 : Nat) : Int) + off = (tgt : Int))
    (kt : y < x → W p l e R s m args below meth c H locs cells slots Q (F0 m tgt ls rest)) (kf : ¬ y < x → W p l e R s m args below meth c H locs cells slots Q (F0 m (pc + 4) ls rest)) : W p l e R s m args below meth c H locs cells slots Q (F0 m pc ls (.long y :: .long x :: rest)) := by
  refine W.lcmp hx hb h1 (lv_if_gt hx hb h2 ht (fun h => kt ?_) (fun h => kf ?_)) <;>
  · unfold lg_cmp at h
    simp only [gt_iff_lt, Int64.lt_iff_toInt_lt, Int64.le_iff_toInt_le, ← Int64.toInt_inj] at h ⊢
    split at h <;> (try split at h) <;> first | omega | (simp at h; try omega) | (exfalso; revert h; decide)
theorem fr_llt (hx : p.tables.exec = Jvm.exec) (hb : c.code = cc) {x y : Int64} {off : Int} {tgt : Nat} (h1 : decode cc pc = .ok (.lcmp, 1)) (h2 : decode cc (pc + 1) = .ok (.ifCond .lt off, 3)) (ht : ((pc + 1 : Nat) : Int) + off = (tgt : Int))
    (kt : x < y → W p l e R s m args below meth c H locs cells slots Q (F0 m tgt ls rest)) (kf : ¬ x < y → W p l e R s m args below meth c H locs cells slots Q (F0 m (pc + 4) ls rest)) : W p l e R s m args below meth c H locs cells slots Q (F0 m pc ls (.long y :: .long x :: rest)) := by
  refine W.lcmp hx hb h1 (lv_if_lt hx hb h2 ht (fun h => kt ?_) (fun h => kf ?_)) <;>
  · unfold lg_cmp at h
    simp only [gt_iff_lt, Int64.lt_iff_toInt_lt, Int64.le_iff_toInt_le, ← Int64.toInt_inj] at h ⊢
    split at h <;> (try split at h) <;> first | omega | (simp at h; try omega) | (exfalso; revert h; decide)
theorem fr_lge (hx : p.tables.exec = Jvm.exec) (hb : c.code = cc) {x y : Int64} {off : Int} {tgt : Nat} (h1 : decode cc pc = .ok (.lcmp, 1)) (h2 : decode cc (pc + 1) = .ok (.ifCond .ge off, 3)) (ht : ((pc + 1 : Nat) : Int) + off = (tgt : Int))
    (kt : y ≤ x → W p l e R s m args below meth c H locs cells slots Q (F0 m tgt ls rest)) (kf : ¬ y ≤ x → W p l e R s m args below meth c H locs cells slots Q (F0 m (pc + 4) ls rest)) : W p l e R s m args below meth c H locs cells slots Q (F0 m pc ls (.long y :: .long x :: rest)) := by
  refine W.lcmp hx hb h1 (lv_if_ge hx hb h2 ht (fun h => kt ?_) (fun h => kf ?_)) <;>
  · unfold lg_cmp at h
    simp only [gt_iff_lt, Int64.lt_iff_toInt_lt, Int64.le_iff_toInt_le, ← Int64.toInt_inj] at h ⊢
    split at h <;> (try split at h) <;> first | omega | (simp at h; try omega) | (exfalso; revert h; decide)
theorem fr_leq (hx : p.tables.exec = Jvm.exec) (hb : c.code = cc) {x y : Int64} {off : Int} {tgt : Nat} (h1 : decode cc pc = .ok (.lcmp, 1)) (h2 : decode cc (pc + 1) = .ok (.ifCond .eq off, 3)) (ht : ((pc + 1 : Nat) : Int) + off = (tgt : Int))
    (kt : x = y → W p l e R s m args below meth c H locs cells slots Q (F0 m tgt ls rest)) (kf : ¬ x = y → W p l e R s m args below meth c H locs cells slots Q (F0 m (pc + 4) ls rest)) : W p l e R s m args below meth c H locs cells slots Q (F0 m pc ls (.long y :: .long x :: rest)) := by
  refine W.lcmp hx hb h1 (lv_if_eq hx hb h2 ht (fun h => kt ?_) (fun h => kf ?_)) <;>
  · unfold lg_cmp at h
    simp only [gt_iff_lt, Int64.lt_iff_toInt_lt, Int64.le_iff_toInt_le, ← Int64.toInt_inj] at h ⊢
    split at h <;> (try split at h) <;> first | omega | (simp at h; try omega) | (exfalso; revert h; decide)
theorem fr_lne (hx : p.tables.exec = Jvm.exec) (hb : c.code = cc) {x y : Int64} {off : Int} {tgt : Nat} (h1 : decode cc pc = .ok (.lcmp, 1)) (h2 : decode cc (pc + 1) = .ok (.ifCond .ne off, 3)) (ht : ((pc + 1 : Nat) : Int) + off = (tgt : Int))
    (kt : ¬ x = y → W p l e R s m args below meth c H locs cells slots Q (F0 m tgt ls rest)) (kf : x = y → W p l e R s m args below meth c H locs cells slots Q (F0 m (pc + 4) ls rest)) : W p l e R s m args below meth c H locs cells slots Q (F0 m pc ls (.long y :: .long x :: rest)) := by
  refine W.lcmp hx hb h1 (lv_if_ne hx hb h2 ht (fun h => kt ?_) (fun h => kf ?_)) <;>
  · unfold lg_cmp at h
    simp only [gt_iff_lt, Int64.lt_iff_toInt_lt, Int64.le_iff_toInt_le, ← Int64.toInt_inj] at h ⊢
    split at h <;> (try split at h) <;> first | omega | (simp at h; try omega) | (exfalso; revert h; decide)
/-- ends -/
theorem fr_iret {W0 : va_W} {v v' : Int32} {W1 : va_W} {rt : FieldType} (C : Cx p m c cc nL s args own D cI cJ) (hr : meth.sig.returnType = some rt) (hlocks : meth.locks = false) (w : Wd D A s.heap H locs ws) (hn : narrow rt (.int v') = .int v') (hv : v' = v) (hw : ws = W1) (hdg : decode cc pc = .ok (.ireturn, 1)) :
    W p l e R s m args below meth c H locs cells slots (MQ below (QI D W1 v A) args s cells slots A) (F0 m pc ls [.int v']) := by
  subst hw
  exact W.zret C.1 C.2.1 hr hn (fun t ht hW => ⟨⟨v', (), rfl, hv, by rw [ht]; exact w.1, w.2.1⟩, w.2.2.1.F ht⟩) w.2.2.1.2.2 hdg hlocks
theorem fr_lret {v v' : Int64} {W1 : va_W} (C : Cx p m c cc nL s args own D cI cJ) (hr : meth.sig.returnType = some .long) (hlocks : meth.locks = false) (w : Wd D A s.heap H locs ws) (hv : v' = v) (hw : ws = W1) (hdg : decode cc pc = .ok (.lreturn, 1)) :
    W p l e R s m args below meth c H locs cells slots (MQ below (QL D W1 v A) args s cells slots A) (F0 m pc ls [.long v']) := by
  subst hw
  exact W.lret C.1 C.2.1 hr (fun t ht hW => ⟨⟨v', (), rfl, hv, by rw [ht]; exact w.1, w.2.1⟩, w.2.2.1.F ht⟩) w.2.2.1.2.2 hdg hlocks
theorem fr_vret {W1 : va_W} (C : Cx p m c cc nL s args own D cI cJ) (hr : meth.sig.returnType = none) (hlocks : meth.locks = false) (w : Wd D A s.heap H locs ws) (hw : ws = W1) (hdg : decode cc pc = .ok (.return_, 1)) :
    W p l e R s m args below meth c H locs cells slots (MQ below (QV D W1 A) args s cells slots A) (F0 m pc ls []) := by
  subst hw
  exact W.vret C.1 C.2.1 hr (fun t ht hW => ⟨⟨(), rfl, trivial, by rw [ht]; exact w.1, w.2.1⟩, w.2.2.1.F ht⟩) w.2.2.1.2.2 hdg hlocks
end FR
