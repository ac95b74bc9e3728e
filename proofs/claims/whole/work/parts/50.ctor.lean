/-! constructors: contracts that make cells -/
def rc (d mc ms : Nat) : Room := { frames := d, cells := mc, slots := ms, locals := 40 * d }
def CC {S : Type} (l : Launch) (y : MethodName) (b : ByteArray) (n d mc ms : Nat) (D : va_G) (cI cJ : ClassId) (av : List Value) (W0 : va_W) (W1 : S → va_W) : Prop :=
  ∀ sz, Met l y (cw y b n none) (rc d mc ms) (va_Pc av (PRE D cI cJ W0 sz)) (va_Qv (fun (_ : S) => True) (fun u t => va_P D vwCl (W1 u) t.heap ∧ va_D (va_A W0 sz) (W1 u)) (va_A W0 sz)) mc ms (va_A W0 sz)
theorem fr_entryC {S : Type} {l : Launch} {y : MethodName} {b : ByteArray} {n d mc ms : Nat} {D : va_G} {cI cJ : ClassId} {av : List Value} {W0 : va_W} {W1 : S → va_W} (hy : plainName y.cls = true) (hn : Nat.ble (lg_sl av).length n = true) (hnm : y.name = "<init>")
    (body : ∀ (p : Program) (e : Env) (s : State) (m : MethodId) (args : Array Value) (below : List Frame) (meth : Method) (c : Code) (A : Nat → Prop) (Q : State → Prop) (H : Heap) (locs : List Loc), Q = MQ below (va_Qv (fun (_ : S) => True) (fun u t => va_P D vwCl (W1 u) t.heap ∧ va_D A (W1 u)) A) args s mc ms A → Cx p m c b n s args y.cls D cI cJ → meth.sig.returnType = none → meth.locks = false → meth.name = "<init>" → Wd D A s.heap H locs W0 → ∀ ls : Array Slot, lv_has ls n (lv_args 0 av) →
      W p l e (rc d mc ms) s m args below meth c H locs 0 0 Q (F0 m 0 ls [])) : CC l y b n d mc ms D cI cJ av W0 W1 := by
  intro sz
  refine Met.ofW (cc := b) (maxL := n) (ret := none) hy rfl ?_
  intro p e s m args below meth c s₁ B hml hv
  obtain ⟨rfl, hsz, hP, hK, hD0⟩ := hv
  have hts := atoms_spec (ws := cw y b n none) B.pre
  have hown : s.vm.findClass y.cls = some m.cls := findClass_of_methodNamed B.named
  have hin : meth.name = "<init>" := (name_of_methodNamed B.named B.method).1.trans hnm
  subst hsz
  have hD := hD0.self (sz := s.heap.size)
  have hl := lv_entry av (n := n) (Nat.le_of_ble_eq_true hn)
  rw [lg_entry_eq]
  exact body p e s m _ below meth c _ _ _ _ rfl ⟨B.exec, B.bytes, hml, hown, fun w h => hts w (List.mem_cons_of_mem _ h), hK⟩ B.returns B.notSynchronized hin ⟨hP, hD, va_S.rf, fun q h => Or.inr h⟩ _ hl
def FF (own : String) (idx ci k : Nat) (ty : FieldType) : Prop := ∃ (C : String) (T : u_T) (N : Nat) (ty0 : Nat → FieldType), vwCl[ci]? = some (C, T, N) ∧ k < N ∧ (∀ w ∈ u_ws C T N, w ∈ wsL_law) ∧ Cond.fieldLink own idx (T k).1 (T k).2.1 (T k).2.2.1 ∈ wsL_law ∧ (∀ k, k < N → parseFieldDescriptor (T k).2.2.1 = some (ty0 k)) ∧ (∀ a, a < N → ∀ b, b < N → a ≠ b → (T a).2.1 ≠ (T b).2.1) ∧ (T k).2.2.2 = true ∧ (T k).1 = own ∧ parseFieldDescriptor (T k).2.2.1 = some ty
def NW (own : String) (idx ci N : Nat) (fs : List Value) : Prop := ∃ (C : String) (T : u_T) (ty : Nat → FieldType), vwCl[ci]? = some (C, T, N) ∧ (∀ w ∈ u_ws C T N, w ∈ wsL_law) ∧ (∀ k, k < N → parseFieldDescriptor (T k).2.2.1 = some (ty k)) ∧ Cond.classLink own idx C ∈ wsL_law ∧ Cond.instantiable C N ∈ wsL_law ∧ Cond.initialized C ∈ wsL_law ∧ (∀ j, j < N → defaultValue (ty j) = vp_V fs j)
def KI (y : MethodName) (b : ByteArray) (n np : Nat) : Prop := Cond.code y b n none ∈ wsL_law ∧ Cond.instanceMethod y ∈ wsL_law ∧ Cond.initialized y.cls ∈ wsL_law ∧ y.name = "<init>" ∧ (y.cls ≠ "java/lang/invoke/MethodHandle" ∧ y.cls ≠ "java/lang/invoke/VarHandle" ∧ (parseMethodDescriptor y.desc).map (fun d => d.parameters.length) = some np)
section CT
variable {p : Program} {l : Launch} {e : Env} {R : Room} {s : State} {m : MethodId} {args : Array Value} {below : List Frame} {meth : Method} {c : Code} {H : Heap} {locs : List Loc} {cells slots : Nat} {Q : State → Prop}
variable {cc : ByteArray} {pc nL : Nat} {ls : Array Slot} {rest st0 : List Value} {D : va_G} {A : Nat → Prop} {a : Nat} {ws : va_W} {own : String} {cI cJ : ClassId}
theorem fr_putF (C : Cx p m c cc nL s args own D cI cJ) (hin2 : meth.name = "<init>") (w : Wd D A s.heap H locs ws) {idx ci k : Nat} {ty : FieldType} (f : FF own idx ci k ty) (q0 : Nat) {fs : List Value} (he : ws[q0]? = some (a, .inr (ci, fs))) {v : Value} (hn : narrow ty v = v) (hfit : fits ty v = true) (hl : Nat.blt k fs.length = true) {ws' : va_W} (hw : ws.set q0 (a, .inr (ci, fs.set k v)) = ws') (hdg : decode cc pc = .ok (.putfield idx, 3))
    (kk : ∀ (H : Heap) (locs : List Loc), Wd D A s.heap H locs ws' → W p l e R s m args below meth c H locs cells slots Q (F0 m (pc + 3) ls rest)) : W p l e R s m args below meth c H locs cells slots Q (F0 m pc ls (v :: .ref a :: rest)) := by
  obtain ⟨Cn, T, N, ty0, hc, hk, hin, hlk, hty, hnm, hfin, hdecl, hd⟩ := f
  obtain ⟨hx, hb, hml, hown, hts, hK⟩ := C
  subst hw
  exact va_putF hx hb hts hin ty0 hty hnm hown hK.1 w.1 w.2.1 w.2.2.1 q0 he hc k hk (hts _ hlk) (fun _ h9 => h9) hfin hin2 hdecl hd hn hfit (Nat.le_of_ble_eq_true hl) hdg (fun H1 locs1 h1 h2 h3 => kk H1 locs1 ⟨h1, h2, h3, w.2.2.2⟩)
theorem fr_new (C : Cx p m c cc nL s args own D cI cJ) (w : Wd D A s.heap H locs ws) {idx ci N : Nat} {fs : List Value} (f : NW own idx ci N fs) (hcells : cells + 1 ≤ R.cells) (hslots : slots + N ≤ R.slots) (hdg : decode cc pc = .ok (.new idx, 3))
    (kk : ∀ (q : Nat) (H : Heap), Wd D A s.heap H locs (ws ++ [(q, .inr (ci, fs))]) → W p l e R s m args below meth c H locs (cells + 1) (slots + N) Q (F0 m (pc + 3) ls (.ref q :: rest))) : W p l e R s m args below meth c H locs cells slots Q (F0 m pc ls rest) := by
  obtain ⟨Cn, T, ty, hc, hin, hty, h1, h2, h3, hfs⟩ := f
  obtain ⟨hx, hb, hml, hown, hts, hK⟩ := C
  exact va_new hx hb hts hin ty hty hown (hts _ h1) (hts _ h2) (hts _ h3) hK.1 w.1 w.2.1 w.2.2.1 w.2.2.2 hc hfs hcells hslots hdg (fun q H1 g1 g2 g3 => kk q H1 ⟨g1, g2, g3, w.2.2.2⟩)
theorem fr_newI (C : Cx p m c cc nL s args own D cI cJ) (w : Wd D A s.heap H locs ws) (harr : Cond.arrayClass .int ∈ wsL_law) {n : Int32} {N : Nat} (hn : ¬ n < 0) (hN : n.toNatClampNeg = N) (hbytes : N * componentBytes .int ≤ 536870912) (hcells : cells + 1 ≤ R.cells) (hslots : slots + N ≤ R.slots) (hdg : decode cc pc = .ok (.newarray .int, 2))
    (kk : ∀ (q : Nat) (H : Heap), Wd D A s.heap H locs (ws ++ [(q, .inl (cI, N, .inl (fun _ => 0)))]) → W p l e R s m args below meth c H locs (cells + 1) (slots + N) Q (F0 m (pc + 2) ls (.ref q :: rest))) : W p l e R s m args below meth c H locs cells slots Q (F0 m pc ls (.int n :: rest)) := by
  obtain ⟨hx, hb, hml, hown, hts, hK⟩ := C
  refine va_newa (atype := .int) (ty := .int) (a0 := (N, .inl (fun _ => 0))) hx hb (hts _ harr) rfl hK.1 w.1 w.2.1 w.2.2.1 w.2.2.2 (fun _ => rfl) hn hN hbytes hcells hslots hdg (fun q cA H1 g0 g1 g2 g3 => ?_)
  have e1 : s.vm.findClass ("[" ++ FieldType.int.toString) = some cA := (g0.2 2 (cA, .int) rfl).2
  have e2 : s.vm.findClass ("[" ++ FieldType.int.toString) = some cI := (hK.1.2 0 (cI, .int) rfl).2
  have e3 : cA = cI := Option.some.inj (e1.symm.trans e2)
  subst e3
  exact kk q H1 ⟨g1, g2, g3, w.2.2.2⟩
theorem fr_newJ (C : Cx p m c cc nL s args own D cI cJ) (w : Wd D A s.heap H locs ws) (harr : Cond.arrayClass .long ∈ wsL_law) {n : Int32} {N : Nat} (hn : ¬ n < 0) (hN : n.toNatClampNeg = N) (hbytes : N * componentBytes .long ≤ 536870912) (hcells : cells + 1 ≤ R.cells) (hslots : slots + N ≤ R.slots) (hdg : decode cc pc = .ok (.newarray .long, 2))
    (kk : ∀ (q : Nat) (H : Heap), Wd D A s.heap H locs (ws ++ [(q, .inl (cJ, N, .inr (.inl (fun _ => 0))))]) → W p l e R s m args below meth c H locs (cells + 1) (slots + N) Q (F0 m (pc + 2) ls (.ref q :: rest))) : W p l e R s m args below meth c H locs cells slots Q (F0 m pc ls (.int n :: rest)) := by
  obtain ⟨hx, hb, hml, hown, hts, hK⟩ := C
  refine va_newa (atype := .long) (ty := .long) (a0 := (N, .inr (.inl (fun _ => 0)))) hx hb (hts _ harr) rfl hK.1 w.1 w.2.1 w.2.2.1 w.2.2.2 (fun _ => rfl) hn hN hbytes hcells hslots hdg (fun q cA H1 g0 g1 g2 g3 => ?_)
  have e1 : s.vm.findClass ("[" ++ FieldType.long.toString) = some cA := (g0.2 2 (cA, .long) rfl).2
  have e2 : s.vm.findClass ("[" ++ FieldType.long.toString) = some cJ := (hK.1.2 1 (cJ, .long) rfl).2
  have e3 : cA = cJ := Option.some.inj (e1.symm.trans e2)
  subst e3
  exact kk q H1 ⟨g1, g2, g3, w.2.2.2⟩
theorem fr_objI (C : Cx p m c cc nL s args own D cI cJ) {idx : Nat} (h1 : Cond.methodLink own idx Lib.objectInit ∈ wsL_law) (h2 : Cond.instanceMethod Lib.objectInit ∈ wsL_law) (h3 : Cond.code Lib.objectInit ⟨#[0xb1]⟩ 1 none ∈ wsL_law) (hls : ls.size = nL) (hdg : decode cc pc = .ok (.invokespecial idx, 3)) (hf : 1 ≤ R.frames) (hroom : (rest.map fun v => v.category).sum + 12 ≤ R.locals)
    (kk : W p l e R s m args below meth c H locs cells slots Q (F0 m (pc + 3) ls rest)) : W p l e R s m args below meth c H locs cells slots Q (F0 m pc ls (.ref a :: rest)) := by
  obtain ⟨hx, hb, hml, hown, hts, hK⟩ := C
  refine W.objInit hx hb hown (hts _ h1) (hts _ h2) (hts _ h3) rfl (by rw [hml]; exact hls) rfl hdg hf (by show 2 * 0 + _ + 12 ≤ _; omega) kk
theorem fr_vretC {S : Type} {W1 : S → va_W} (u : S) (C : Cx p m c cc nL s args own D cI cJ) (hr : meth.sig.returnType = none) (hlocks : meth.locks = false) (w : Wd D A s.heap H locs ws) (hw : ws = W1 u) (hdg : decode cc pc = .ok (.return_, 1)) :
    W p l e R s m args below meth c H locs cells slots (MQ below (va_Qv (fun (_ : S) => True) (fun u t => va_P D vwCl (W1 u) t.heap ∧ va_D A (W1 u)) A) args s cells slots A) (F0 m pc ls []) := by
  subst hw
  exact W.vret C.1 C.2.1 hr (fun t ht hW => ⟨⟨u, rfl, trivial, by rw [ht]; exact w.1, w.2.1⟩, w.2.2.1.F ht⟩) w.2.2.1.2.2 hdg hlocks
theorem fr_callC {S : Type} {W1 : S → va_W} {y : MethodName} {b : ByteArray} {n np d mc ms idx bb : Nat} {As : List Value} {W0 wr : va_W} (C0 : Cx p m c cc nL s args own D cI cJ) (w : Wd D A s.heap H locs ws) (K : KI y b n np) (hlk : Cond.methodLink own idx y ∈ wsL_law)
    (hM : CC l y b n d mc ms D cI cJ (.ref bb :: As) W0 W1) (hR : RO n d R) (hcs : cells + mc ≤ R.cells ∧ slots + ms ≤ R.slots) (isC isR : List Nat) (h1 : isC.map (fun i => ws[i]?) = W0.map some) (hnd : va_nd isC = true) (h2 : isR.map (fun i => ws[i]?) = wr.map some) (hnr : va_nd isR = true) (hdis : ∀ i ∈ isR, i ∉ isC)
    (hn : As.length = np) (hls : ls.size = nL) (hst : st0 = As.reverse ++ .ref bb :: rest) (hroom : (rest.map fun v => v.category).sum ≤ 8) (hdg : decode cc pc = .ok (.invokespecial idx, 3))
    (kk : ∀ (u : S) (H : Heap) (locs : List Loc), Wd D A s.heap H locs (wr ++ W1 u) → W p l e R s m args below meth c H locs (cells + mc) (slots + ms) Q (F0 m (pc + 3) ls rest)) : W p l e R s m args below meth c H locs cells slots Q (F0 m pc ls st0) := by
  obtain ⟨hx, hb, hml, hown, hts, hK⟩ := C0
  obtain ⟨k1, k2, k4, k6, k5⟩ := K
  have hP0 : va_P D vwCl W0 H := fun k q hq => by
    obtain ⟨i, -, g⟩ := map_at h1 hq
    exact w.1 i q g
  have hD0 : va_D (fun _ => True) W0 := (w.2.1.sub isC hnd h1).weaken (fun _ _ _ _ => trivial)
  have hF := va_free w.2.1 w.2.2.1 w.2.2.2 isC h1
  refine va_callv (post := fun (_ : S) => True) (B := fun u t => va_P D vwCl (W1 u) t.heap ∧ va_D (va_A W0 H.size) (W1 u)) (A1 := va_A W0 H.size) (va_runI (As := As) (rest := rest) ⟨hx, hb, hml, hown, hts⟩ (hM H.size) ⟨callB_of np hts (uw_cw k1) rfl rfl rfl (hts _ k4) (hts _ hlk) k5 hR, k6, hts _ k2⟩
    ⟨PRE.blind, fun U hU hW => ⟨rfl, by rw [hU], by rw [hU]; exact hP0, hK.warm hW, hD0⟩⟩ rfl hn hls hst (lv_room hroom) hdg hcs) w.2.2.1 (fun q _ h => hF q h) hF (fun u t H1 locs1 ht hvm hw hB hz hk hS => ?_)
  have hB1 : va_P D vwCl (W1 u) t.heap := hB.1
  rw [ht] at hB1
  obtain ⟨g1, g2⟩ := va_join (wr := wr) (w1 := W1 u) w.1 w.2.1 isC isR h1 h2 hnr hdis hk hF hB1 hB.2
  exact kk u H1 locs1 ⟨g1, g2, hS, w.2.2.2⟩
end CT
