/-! calls: the callee's cells are cut out by their places, and put back -/
def putW : va_W → List Nat → va_W → va_W
  | ws, i :: is, q :: qs => putW (ws.set i q) is qs
  | ws, _, _ => ws
theorem putW_get : ∀ (is : List Nat) (qs ws : va_W) (k : Nat) (q : Nat × va_E), is.length = qs.length → (putW ws is qs)[k]? = some q → (∃ j : Nat, is[j]? = some k ∧ qs[j]? = some q) ∨ (k ∉ is ∧ ws[k]? = some q)
  | [], qs, ws, k, q, hl, h => by
    cases qs with
    | nil => exact Or.inr ⟨List.not_mem_nil, h⟩
    | cons a b => cases hl
  | i :: is, [], ws, k, q, hl, h => by cases hl
  | i :: is, q0 :: qs, ws, k, q, hl, h => by
    have h' : (putW (ws.set i q0) is qs)[k]? = some q := h
    rcases putW_get is qs (ws.set i q0) k q (Nat.succ.inj hl) h' with ⟨j, h1, h2⟩ | ⟨h1, h2⟩
    · exact Or.inl ⟨j + 1, by simpa using h1, by simpa using h2⟩
    · by_cases hk : i = k
      · subst hk
        rw [List.getElem?_set] at h2
        simp only [if_true] at h2
        split at h2
        · exact Or.inl ⟨0, by simp, by simpa using h2⟩
        · cases h2
      · rw [List.getElem?_set_ne hk] at h2
        exact Or.inr ⟨fun hm => (List.mem_cons.mp hm).elim (fun e => hk e.symm) h1, h2⟩
theorem map_at {is : List Nat} {ws w : va_W} (hs : is.map (fun i => ws[i]?) = w.map some) {k : Nat} {q : Nat × va_E} (hq : w[k]? = some q) : ∃ i : Nat, is[k]? = some i ∧ ws[i]? = some q := by
  have h1 : (is.map (fun i => ws[i]?))[k]? = some (some q) := by rw [hs, List.getElem?_map, hq]; rfl
  rw [List.getElem?_map] at h1
  cases hi : is[k]? with
  | none => rw [hi] at h1; cases h1
  | some i => rw [hi] at h1; exact ⟨i, rfl, Option.some.inj h1⟩
theorem map_fst {W0 W1 : va_W} (hf : W1.map (fun q => q.1) = W0.map (fun q => q.1)) {j : Nat} {q : Nat × va_E} (h : W1[j]? = some q) : ∃ e : va_E, W0[j]? = some (q.1, e) := by
  have h1 : (W1.map (fun q => q.1))[j]? = some q.1 := by rw [List.getElem?_map, h]; rfl
  rw [hf, List.getElem?_map] at h1
  cases hi : W0[j]? with
  | none => rw [hi] at h1; cases h1
  | some r => rw [hi] at h1; exact ⟨r.2, by have : r.1 = q.1 := Option.some.inj h1; rw [← this]⟩
theorem putW_ok {D : va_G} {A : Nat → Prop} {ws W0 W1 : va_W} {H H1 : Heap} (hP : va_P D vwCl ws H) (hD : va_D A ws) (isC : List Nat) (h1 : isC.map (fun i => ws[i]?) = W0.map some) (hf : W1.map (fun q => q.1) = W0.map (fun q => q.1))
    (hk : ∀ q : Nat, q < H.size → ¬ va_A W0 H.size q → H1[q]? = H[q]?) (hP1 : va_P D vwCl W1 H1) : va_P D vwCl (putW ws isC W1) H1 ∧ va_D A (putW ws isC W1) := by
  have hlen : isC.length = W1.length := by
    have a1 := congrArg List.length h1
    have a2 := congrArg List.length hf
    simp only [List.length_map] at a1 a2
    omega
  have same : ∀ (k : Nat) (q : Nat × va_E), (putW ws isC W1)[k]? = some q → ∃ e : va_E, ws[k]? = some (q.1, e) := by
    intro k q hq
    rcases putW_get isC W1 ws k q hlen hq with ⟨j, g1, g2⟩ | ⟨-, g2⟩
    · obtain ⟨e, he⟩ := map_fst hf g2
      obtain ⟨i, g3, g4⟩ := map_at h1 he
      rw [g1] at g3
      cases g3
      exact ⟨e, g4⟩
    · exact ⟨q.2, g2⟩
  refine ⟨fun k q hq => ?_, fun i j x y hx hy hxy => ?_, fun k q hq => ?_⟩
  · rcases putW_get isC W1 ws k q hlen hq with ⟨j, g1, g2⟩ | ⟨g1, g2⟩
    · exact hP1 j q g2
    · have hlt := (hP k q g2).lt
      refine (hP k q g2).kept (hk q.1 hlt (fun h => ?_))
      rcases h with ⟨k2, e, h⟩ | h
      · obtain ⟨i, h3, h4⟩ := map_at h1 h
        have hij := hD.1 k i q (q.1, e) g2 h4 rfl
        subst hij
        exact g1 (List.mem_of_getElem? h3)
      · omega
  · obtain ⟨e1, a1⟩ := same i x hx
    obtain ⟨e2, a2⟩ := same j y hy
    exact hD.1 i j _ _ a1 a2 hxy
  · obtain ⟨e1, a1⟩ := same k q hq
    exact hD.2 k (q.1, e1) a1
def KV (C : String) (y : MethodName) (b : ByteArray) (n : Nat) (r : Option FieldType) (np : Nat) : Prop :=
  Cond.code y b n r ∈ wsL_law ∧ Cond.instanceMethod y ∈ wsL_law ∧ Cond.selects C y y ∈ wsL_law ∧ Cond.initialized y.cls ∈ wsL_law ∧ (y.cls ≠ "java/lang/invoke/MethodHandle" ∧ y.cls ≠ "java/lang/invoke/VarHandle" ∧ (parseMethodDescriptor y.desc).map (fun d => d.parameters.length) = some np)
def KS (y : MethodName) (b : ByteArray) (n : Nat) (r : Option FieldType) (np : Nat) : Prop :=
  Cond.code y b n r ∈ wsL_law ∧ Cond.static y ∈ wsL_law ∧ Cond.initialized y.cls ∈ wsL_law ∧ (y.cls ≠ "java/lang/invoke/MethodHandle" ∧ y.cls ≠ "java/lang/invoke/VarHandle" ∧ (parseMethodDescriptor y.desc).map (fun d => d.parameters.length) = some np)
def RO (n d : Nat) (R : Room) : Prop := d + 1 ≤ R.frames ∧ 8 + (n + 11) + 40 * d ≤ R.locals
section CR
variable {p : Program} {l : Launch} {e : Env} {R : Room} {s : State} {m : MethodId} {args : Array Value} {below : List Frame} {meth : Method} {c : Code} {H : Heap} {locs : List Loc} {cells slots : Nat} {Q : State → Prop}
variable {cc : ByteArray} {pc nL : Nat} {ls : Array Slot} {rest st0 : List Value} {D : va_G} {A : Nat → Prop} {ws : va_W} {own : String} {cI cJ : ClassId}
variable {C : String} {y : MethodName} {b : ByteArray} {n np d idx bb ci N : Nat} {r : Option FieldType} {T : u_T} {fs As : List Value} {W0 W1 ws' : va_W}
theorem fr_runV {Qc : (Nat → Prop) → Array Value → State → Outcome → State → Prop} (C0 : Cx p m c cc nL s args own D cI cJ) (w : Wd D A s.heap H locs ws) (K : KV C y b n r np) (hlk : Cond.methodLink own idx y ∈ wsL_law)
    (hM : ∀ sz, Met l y (cw y b n r) (rl d) (va_Pc (.ref bb :: As) (PRE D cI cJ W0 sz)) (Qc (va_A W0 sz)) 0 0 (va_A W0 sz)) (hR : RO n d R) (hcs : cells ≤ R.cells ∧ slots ≤ R.slots) (isC : List Nat) (h1 : isC.map (fun i => ws[i]?) = W0.map some) (hnd : va_nd isC = true)
    (hc : vwCl[ci]? = some (C, T, N)) (hrec : W0[0]? = some (bb, .inr (ci, fs))) (hn : As.length = np) (hls : ls.size = nL) (hst : st0 = As.reverse ++ .ref bb :: rest) (hroom : (rest.map fun v => v.category).sum ≤ 8) (hdg : decode cc pc = .ok (.invokevirtual idx, 3)) :
    va_Run p l e R s m args below meth c H locs cells slots 0 0 (F0 m pc ls st0) rest (Qc (va_A W0 H.size) (Value.ref bb :: As).toArray) (va_A W0 H.size) := by
  obtain ⟨hx, hb, hml, hown, hts, hK⟩ := C0
  obtain ⟨k1, k2, k3, k4, k5⟩ := K
  have hP0 : va_P D vwCl W0 H := fun k q hq => by
    obtain ⟨i, -, g⟩ := map_at h1 hq
    exact w.1 i q g
  have hD0 : va_D (fun _ => True) W0 := (w.2.1.sub isC hnd h1).weaken (fun _ _ _ _ => trivial)
  exact va_runV (As := As) (rest := rest) ⟨hx, hb, hml, hown, hts⟩ (hM H.size) ⟨callB_of np hts (uw_cw k1) rfl rfl rfl (hts _ k4) (hts _ hlk) k5 hR, hts _ k2, hts _ k3⟩
    ⟨PRE.blind, va_recv hK.1 hP0 hc hrec, fun U hU hW => ⟨rfl, by rw [hU], by rw [hU]; exact hP0, hK.warm hW, hD0⟩⟩ rfl hn hls hst (lv_room hroom) hdg hcs
theorem fr_runS {Qc : (Nat → Prop) → Array Value → State → Outcome → State → Prop} (C0 : Cx p m c cc nL s args own D cI cJ) (w : Wd D A s.heap H locs ws) (K : KS y b n r np) (hlk : Cond.methodLink own idx y ∈ wsL_law)
    (hM : ∀ sz, Met l y (cw y b n r) (rl d) (va_Pc As (PRE D cI cJ W0 sz)) (Qc (va_A W0 sz)) 0 0 (va_A W0 sz)) (hR : RO n d R) (hcs : cells ≤ R.cells ∧ slots ≤ R.slots) (isC : List Nat) (h1 : isC.map (fun i => ws[i]?) = W0.map some) (hnd : va_nd isC = true)
    (hn : As.length = np) (hls : ls.size = nL) (hst : st0 = As.reverse ++ rest) (hroom : (rest.map fun v => v.category).sum ≤ 8) (hdg : decode cc pc = .ok (.invokestatic idx, 3)) :
    va_Run p l e R s m args below meth c H locs cells slots 0 0 (F0 m pc ls st0) rest (Qc (va_A W0 H.size) As.toArray) (va_A W0 H.size) := by
  obtain ⟨hx, hb, hml, hown, hts, hK⟩ := C0
  obtain ⟨k1, k2, k4, k5⟩ := K
  have hP0 : va_P D vwCl W0 H := fun k q hq => by
    obtain ⟨i, -, g⟩ := map_at h1 hq
    exact w.1 i q g
  have hD0 : va_D (fun _ => True) W0 := (w.2.1.sub isC hnd h1).weaken (fun _ _ _ _ => trivial)
  exact va_runS (As := As) (rest := rest) ⟨hx, hb, hml, hown, hts⟩ (hM H.size) ⟨callB_of np hts (uw_cw k1) rfl rfl rfl (hts _ k4) (hts _ hlk) k5 hR, hts _ k2⟩
    ⟨PRE.blind, fun U hU hW => ⟨rfl, by rw [hU], by rw [hU]; exact hP0, hK.warm hW, hD0⟩⟩ rfl hn hls hst (lv_room hroom) hdg hcs
theorem fr_runN {Qc : (Nat → Prop) → Array Value → State → Outcome → State → Prop} (C0 : Cx p m c cc nL s args own D cI cJ) (w : Wd D A s.heap H locs ws) (K : KS y b n r np) (hlk : va_Nw (.methodLinkNest own idx y "MudShares") s)
    (hM : ∀ sz, Met l y (cw y b n r) (rl d) (va_Pc As (PRE D cI cJ W0 sz)) (Qc (va_A W0 sz)) 0 0 (va_A W0 sz)) (hR : RO n d R) (hcs : cells ≤ R.cells ∧ slots ≤ R.slots) (isC : List Nat) (h1 : isC.map (fun i => ws[i]?) = W0.map some) (hnd : va_nd isC = true)
    (hn : As.length = np) (hls : ls.size = nL) (hst : st0 = As.reverse ++ rest) (hroom : (rest.map fun v => v.category).sum ≤ 8) (hdg : decode cc pc = .ok (.invokestatic idx, 3)) :
    va_Run p l e R s m args below meth c H locs cells slots 0 0 (F0 m pc ls st0) rest (Qc (va_A W0 H.size) As.toArray) (va_A W0 H.size) := by
  obtain ⟨hx, hb, hml, hown, hts, hK⟩ := C0
  obtain ⟨k1, k2, k4, k5⟩ := K
  have hP0 : va_P D vwCl W0 H := fun k q hq => by
    obtain ⟨i, -, g⟩ := map_at h1 hq
    exact w.1 i q g
  have hD0 : va_D (fun _ => True) W0 := (w.2.1.sub isC hnd h1).weaken (fun _ _ _ _ => trivial)
  exact va_runSN (As := As) (rest := rest) ⟨hx, hb, hml, hown, hts⟩ (hM H.size) ⟨va_cnB np hts (uw_cw k1) rfl rfl rfl hlk (hts _ k4) k5 hR, hts _ k2, trivial⟩
    ⟨PRE.blind, fun U hU hW => ⟨rfl, by rw [hU], by rw [hU]; exact hP0, hK.warm hW, hD0⟩⟩ rfl hn hls hst (lv_room hroom) hdg hcs
theorem fr_callIV {rt : FieldType} {v : Int32} (C0 : Cx p m c cc nL s args own D cI cJ) (w : Wd D A s.heap H locs ws) (K : KV C y b n (some rt) np) (hlk : Cond.methodLink own idx y ∈ wsL_law)
    (hM : CI l y b n rt d D cI cJ (.ref bb :: As) W0 W1 v) (hR : RO n d R) (hcs : cells ≤ R.cells ∧ slots ≤ R.slots) (isC : List Nat) (h1 : isC.map (fun i => ws[i]?) = W0.map some) (hnd : va_nd isC = true) (hf : W1.map (fun q => q.1) = W0.map (fun q => q.1)) (hw' : putW ws isC W1 = ws')
    (hc : vwCl[ci]? = some (C, T, N)) (hrec : W0[0]? = some (bb, .inr (ci, fs))) (hn : As.length = np) (hls : ls.size = nL) (hst : st0 = As.reverse ++ .ref bb :: rest) (hroom : (rest.map fun v => v.category).sum ≤ 8) (hdg : decode cc pc = .ok (.invokevirtual idx, 3))
    (kk : ∀ (H : Heap) (locs : List Loc), Wd D A s.heap H locs ws' → W p l e R s m args below meth c H locs cells slots Q (F0 m (pc + 3) ls (.int v :: rest))) : W p l e R s m args below meth c H locs cells slots Q (F0 m pc ls st0) := by
  have hF := va_free w.2.1 w.2.2.1 w.2.2.2 isC h1
  refine va_calli (post := (fun (r : Int32) (_ : Unit) => r = v)) (B := QB D W1 (va_A W0 H.size)) (A1 := va_A W0 H.size) (fr_runV (Qc := (fun A => QI D W1 v A)) C0 w K hlk hM hR hcs isC h1 hnd hc hrec hn hls hst hroom hdg) w.2.2.1 (fun q _ h => hF q h) hF (fun r u t H1 locs1 ht hvm hw hB hz hk hS => ?_)
  subst hw
  have hB1 : va_P D vwCl W1 t.heap := hB.1
  rw [ht] at hB1
  obtain ⟨g1, g2⟩ := putW_ok w.1 w.2.1 isC h1 hf hk hB1
  rw [hw'] at g1 g2
  exact kk H1 locs1 ⟨g1, g2, hS, w.2.2.2⟩
theorem fr_callLV {v : Int64} (C0 : Cx p m c cc nL s args own D cI cJ) (w : Wd D A s.heap H locs ws) (K : KV C y b n (some .long) np) (hlk : Cond.methodLink own idx y ∈ wsL_law)
    (hM : CL l y b n d D cI cJ (.ref bb :: As) W0 W1 v) (hR : RO n d R) (hcs : cells ≤ R.cells ∧ slots ≤ R.slots) (isC : List Nat) (h1 : isC.map (fun i => ws[i]?) = W0.map some) (hnd : va_nd isC = true) (hf : W1.map (fun q => q.1) = W0.map (fun q => q.1)) (hw' : putW ws isC W1 = ws')
    (hc : vwCl[ci]? = some (C, T, N)) (hrec : W0[0]? = some (bb, .inr (ci, fs))) (hn : As.length = np) (hls : ls.size = nL) (hst : st0 = As.reverse ++ .ref bb :: rest) (hroom : (rest.map fun v => v.category).sum ≤ 8) (hdg : decode cc pc = .ok (.invokevirtual idx, 3))
    (kk : ∀ (H : Heap) (locs : List Loc), Wd D A s.heap H locs ws' → W p l e R s m args below meth c H locs cells slots Q (F0 m (pc + 3) ls (.long v :: rest))) : W p l e R s m args below meth c H locs cells slots Q (F0 m pc ls st0) := by
  have hF := va_free w.2.1 w.2.2.1 w.2.2.2 isC h1
  refine va_calll (post := (fun (r : Int64) (_ : Unit) => r = v)) (B := QB D W1 (va_A W0 H.size)) (A1 := va_A W0 H.size) (fr_runV (Qc := (fun A => QL D W1 v A)) C0 w K hlk hM hR hcs isC h1 hnd hc hrec hn hls hst hroom hdg) w.2.2.1 (fun q _ h => hF q h) hF (fun r u t H1 locs1 ht hvm hw hB hz hk hS => ?_)
  subst hw
  have hB1 : va_P D vwCl W1 t.heap := hB.1
  rw [ht] at hB1
  obtain ⟨g1, g2⟩ := putW_ok w.1 w.2.1 isC h1 hf hk hB1
  rw [hw'] at g1 g2
  exact kk H1 locs1 ⟨g1, g2, hS, w.2.2.2⟩
theorem fr_callVV (C0 : Cx p m c cc nL s args own D cI cJ) (w : Wd D A s.heap H locs ws) (K : KV C y b n none np) (hlk : Cond.methodLink own idx y ∈ wsL_law)
    (hM : CV l y b n d D cI cJ (.ref bb :: As) W0 W1) (hR : RO n d R) (hcs : cells ≤ R.cells ∧ slots ≤ R.slots) (isC : List Nat) (h1 : isC.map (fun i => ws[i]?) = W0.map some) (hnd : va_nd isC = true) (hf : W1.map (fun q => q.1) = W0.map (fun q => q.1)) (hw' : putW ws isC W1 = ws')
    (hc : vwCl[ci]? = some (C, T, N)) (hrec : W0[0]? = some (bb, .inr (ci, fs))) (hn : As.length = np) (hls : ls.size = nL) (hst : st0 = As.reverse ++ .ref bb :: rest) (hroom : (rest.map fun v => v.category).sum ≤ 8) (hdg : decode cc pc = .ok (.invokevirtual idx, 3))
    (kk : ∀ (H : Heap) (locs : List Loc), Wd D A s.heap H locs ws' → W p l e R s m args below meth c H locs cells slots Q (F0 m (pc + 3) ls rest)) : W p l e R s m args below meth c H locs cells slots Q (F0 m pc ls st0) := by
  have hF := va_free w.2.1 w.2.2.1 w.2.2.2 isC h1
  refine va_callv (post := (fun (_ : Unit) => True)) (B := QB D W1 (va_A W0 H.size)) (A1 := va_A W0 H.size) (fr_runV (Qc := (fun A => QV D W1 A)) C0 w K hlk hM hR hcs isC h1 hnd hc hrec hn hls hst hroom hdg) w.2.2.1 (fun q _ h => hF q h) hF (fun u t H1 locs1 ht hvm hw hB hz hk hS => ?_)
  have hB1 : va_P D vwCl W1 t.heap := hB.1
  rw [ht] at hB1
  obtain ⟨g1, g2⟩ := putW_ok w.1 w.2.1 isC h1 hf hk hB1
  rw [hw'] at g1 g2
  exact kk H1 locs1 ⟨g1, g2, hS, w.2.2.2⟩
theorem fr_callIS {rt : FieldType} {v : Int32} (C0 : Cx p m c cc nL s args own D cI cJ) (w : Wd D A s.heap H locs ws) (K : KS y b n (some rt) np) (hlk : Cond.methodLink own idx y ∈ wsL_law)
    (hM : CI l y b n rt d D cI cJ As W0 W1 v) (hR : RO n d R) (hcs : cells ≤ R.cells ∧ slots ≤ R.slots) (isC : List Nat) (h1 : isC.map (fun i => ws[i]?) = W0.map some) (hnd : va_nd isC = true) (hf : W1.map (fun q => q.1) = W0.map (fun q => q.1)) (hw' : putW ws isC W1 = ws')
    (hn : As.length = np) (hls : ls.size = nL) (hst : st0 = As.reverse ++ rest) (hroom : (rest.map fun v => v.category).sum ≤ 8) (hdg : decode cc pc = .ok (.invokestatic idx, 3))
    (kk : ∀ (H : Heap) (locs : List Loc), Wd D A s.heap H locs ws' → W p l e R s m args below meth c H locs cells slots Q (F0 m (pc + 3) ls (.int v :: rest))) : W p l e R s m args below meth c H locs cells slots Q (F0 m pc ls st0) := by
  have hF := va_free w.2.1 w.2.2.1 w.2.2.2 isC h1
  refine va_calli (post := (fun (r : Int32) (_ : Unit) => r = v)) (B := QB D W1 (va_A W0 H.size)) (A1 := va_A W0 H.size) (fr_runS (Qc := (fun A => QI D W1 v A)) C0 w K hlk hM hR hcs isC h1 hnd hn hls hst hroom hdg) w.2.2.1 (fun q _ h => hF q h) hF (fun r u t H1 locs1 ht hvm hw hB hz hk hS => ?_)
  subst hw
  have hB1 : va_P D vwCl W1 t.heap := hB.1
  rw [ht] at hB1
  obtain ⟨g1, g2⟩ := putW_ok w.1 w.2.1 isC h1 hf hk hB1
  rw [hw'] at g1 g2
  exact kk H1 locs1 ⟨g1, g2, hS, w.2.2.2⟩
theorem fr_callLS {v : Int64} (C0 : Cx p m c cc nL s args own D cI cJ) (w : Wd D A s.heap H locs ws) (K : KS y b n (some .long) np) (hlk : Cond.methodLink own idx y ∈ wsL_law)
    (hM : CL l y b n d D cI cJ As W0 W1 v) (hR : RO n d R) (hcs : cells ≤ R.cells ∧ slots ≤ R.slots) (isC : List Nat) (h1 : isC.map (fun i => ws[i]?) = W0.map some) (hnd : va_nd isC = true) (hf : W1.map (fun q => q.1) = W0.map (fun q => q.1)) (hw' : putW ws isC W1 = ws')
    (hn : As.length = np) (hls : ls.size = nL) (hst : st0 = As.reverse ++ rest) (hroom : (rest.map fun v => v.category).sum ≤ 8) (hdg : decode cc pc = .ok (.invokestatic idx, 3))
    (kk : ∀ (H : Heap) (locs : List Loc), Wd D A s.heap H locs ws' → W p l e R s m args below meth c H locs cells slots Q (F0 m (pc + 3) ls (.long v :: rest))) : W p l e R s m args below meth c H locs cells slots Q (F0 m pc ls st0) := by
  have hF := va_free w.2.1 w.2.2.1 w.2.2.2 isC h1
  refine va_calll (post := (fun (r : Int64) (_ : Unit) => r = v)) (B := QB D W1 (va_A W0 H.size)) (A1 := va_A W0 H.size) (fr_runS (Qc := (fun A => QL D W1 v A)) C0 w K hlk hM hR hcs isC h1 hnd hn hls hst hroom hdg) w.2.2.1 (fun q _ h => hF q h) hF (fun r u t H1 locs1 ht hvm hw hB hz hk hS => ?_)
  subst hw
  have hB1 : va_P D vwCl W1 t.heap := hB.1
  rw [ht] at hB1
  obtain ⟨g1, g2⟩ := putW_ok w.1 w.2.1 isC h1 hf hk hB1
  rw [hw'] at g1 g2
  exact kk H1 locs1 ⟨g1, g2, hS, w.2.2.2⟩
theorem fr_callVS (C0 : Cx p m c cc nL s args own D cI cJ) (w : Wd D A s.heap H locs ws) (K : KS y b n none np) (hlk : Cond.methodLink own idx y ∈ wsL_law)
    (hM : CV l y b n d D cI cJ As W0 W1) (hR : RO n d R) (hcs : cells ≤ R.cells ∧ slots ≤ R.slots) (isC : List Nat) (h1 : isC.map (fun i => ws[i]?) = W0.map some) (hnd : va_nd isC = true) (hf : W1.map (fun q => q.1) = W0.map (fun q => q.1)) (hw' : putW ws isC W1 = ws')
    (hn : As.length = np) (hls : ls.size = nL) (hst : st0 = As.reverse ++ rest) (hroom : (rest.map fun v => v.category).sum ≤ 8) (hdg : decode cc pc = .ok (.invokestatic idx, 3))
    (kk : ∀ (H : Heap) (locs : List Loc), Wd D A s.heap H locs ws' → W p l e R s m args below meth c H locs cells slots Q (F0 m (pc + 3) ls rest)) : W p l e R s m args below meth c H locs cells slots Q (F0 m pc ls st0) := by
  have hF := va_free w.2.1 w.2.2.1 w.2.2.2 isC h1
  refine va_callv (post := (fun (_ : Unit) => True)) (B := QB D W1 (va_A W0 H.size)) (A1 := va_A W0 H.size) (fr_runS (Qc := (fun A => QV D W1 A)) C0 w K hlk hM hR hcs isC h1 hnd hn hls hst hroom hdg) w.2.2.1 (fun q _ h => hF q h) hF (fun u t H1 locs1 ht hvm hw hB hz hk hS => ?_)
  have hB1 : va_P D vwCl W1 t.heap := hB.1
  rw [ht] at hB1
  obtain ⟨g1, g2⟩ := putW_ok w.1 w.2.1 isC h1 hf hk hB1
  rw [hw'] at g1 g2
  exact kk H1 locs1 ⟨g1, g2, hS, w.2.2.2⟩
theorem fr_callIN {rt : FieldType} {v : Int32} (C0 : Cx p m c cc nL s args own D cI cJ) (w : Wd D A s.heap H locs ws) (K : KS y b n (some rt) np) (hlk : va_Nw (.methodLinkNest own idx y "MudShares") s)
    (hM : CI l y b n rt d D cI cJ As W0 W1 v) (hR : RO n d R) (hcs : cells ≤ R.cells ∧ slots ≤ R.slots) (isC : List Nat) (h1 : isC.map (fun i => ws[i]?) = W0.map some) (hnd : va_nd isC = true) (hf : W1.map (fun q => q.1) = W0.map (fun q => q.1)) (hw' : putW ws isC W1 = ws')
    (hn : As.length = np) (hls : ls.size = nL) (hst : st0 = As.reverse ++ rest) (hroom : (rest.map fun v => v.category).sum ≤ 8) (hdg : decode cc pc = .ok (.invokestatic idx, 3))
    (kk : ∀ (H : Heap) (locs : List Loc), Wd D A s.heap H locs ws' → W p l e R s m args below meth c H locs cells slots Q (F0 m (pc + 3) ls (.int v :: rest))) : W p l e R s m args below meth c H locs cells slots Q (F0 m pc ls st0) := by
  have hF := va_free w.2.1 w.2.2.1 w.2.2.2 isC h1
  refine va_calli (post := (fun (r : Int32) (_ : Unit) => r = v)) (B := QB D W1 (va_A W0 H.size)) (A1 := va_A W0 H.size) (fr_runN (Qc := (fun A => QI D W1 v A)) C0 w K hlk hM hR hcs isC h1 hnd hn hls hst hroom hdg) w.2.2.1 (fun q _ h => hF q h) hF (fun r u t H1 locs1 ht hvm hw hB hz hk hS => ?_)
  subst hw
  have hB1 : va_P D vwCl W1 t.heap := hB.1
  rw [ht] at hB1
  obtain ⟨g1, g2⟩ := putW_ok w.1 w.2.1 isC h1 hf hk hB1
  rw [hw'] at g1 g2
  exact kk H1 locs1 ⟨g1, g2, hS, w.2.2.2⟩
theorem fr_callLN {v : Int64} (C0 : Cx p m c cc nL s args own D cI cJ) (w : Wd D A s.heap H locs ws) (K : KS y b n (some .long) np) (hlk : va_Nw (.methodLinkNest own idx y "MudShares") s)
    (hM : CL l y b n d D cI cJ As W0 W1 v) (hR : RO n d R) (hcs : cells ≤ R.cells ∧ slots ≤ R.slots) (isC : List Nat) (h1 : isC.map (fun i => ws[i]?) = W0.map some) (hnd : va_nd isC = true) (hf : W1.map (fun q => q.1) = W0.map (fun q => q.1)) (hw' : putW ws isC W1 = ws')
    (hn : As.length = np) (hls : ls.size = nL) (hst : st0 = As.reverse ++ rest) (hroom : (rest.map fun v => v.category).sum ≤ 8) (hdg : decode cc pc = .ok (.invokestatic idx, 3))
    (kk : ∀ (H : Heap) (locs : List Loc), Wd D A s.heap H locs ws' → W p l e R s m args below meth c H locs cells slots Q (F0 m (pc + 3) ls (.long v :: rest))) : W p l e R s m args below meth c H locs cells slots Q (F0 m pc ls st0) := by
  have hF := va_free w.2.1 w.2.2.1 w.2.2.2 isC h1
  refine va_calll (post := (fun (r : Int64) (_ : Unit) => r = v)) (B := QB D W1 (va_A W0 H.size)) (A1 := va_A W0 H.size) (fr_runN (Qc := (fun A => QL D W1 v A)) C0 w K hlk hM hR hcs isC h1 hnd hn hls hst hroom hdg) w.2.2.1 (fun q _ h => hF q h) hF (fun r u t H1 locs1 ht hvm hw hB hz hk hS => ?_)
  subst hw
  have hB1 : va_P D vwCl W1 t.heap := hB.1
  rw [ht] at hB1
  obtain ⟨g1, g2⟩ := putW_ok w.1 w.2.1 isC h1 hf hk hB1
  rw [hw'] at g1 g2
  exact kk H1 locs1 ⟨g1, g2, hS, w.2.2.2⟩
theorem fr_callVN (C0 : Cx p m c cc nL s args own D cI cJ) (w : Wd D A s.heap H locs ws) (K : KS y b n none np) (hlk : va_Nw (.methodLinkNest own idx y "MudShares") s)
    (hM : CV l y b n d D cI cJ As W0 W1) (hR : RO n d R) (hcs : cells ≤ R.cells ∧ slots ≤ R.slots) (isC : List Nat) (h1 : isC.map (fun i => ws[i]?) = W0.map some) (hnd : va_nd isC = true) (hf : W1.map (fun q => q.1) = W0.map (fun q => q.1)) (hw' : putW ws isC W1 = ws')
    (hn : As.length = np) (hls : ls.size = nL) (hst : st0 = As.reverse ++ rest) (hroom : (rest.map fun v => v.category).sum ≤ 8) (hdg : decode cc pc = .ok (.invokestatic idx, 3))
    (kk : ∀ (H : Heap) (locs : List Loc), Wd D A s.heap H locs ws' → W p l e R s m args below meth c H locs cells slots Q (F0 m (pc + 3) ls rest)) : W p l e R s m args below meth c H locs cells slots Q (F0 m pc ls st0) := by
  have hF := va_free w.2.1 w.2.2.1 w.2.2.2 isC h1
  refine va_callv (post := (fun (_ : Unit) => True)) (B := QB D W1 (va_A W0 H.size)) (A1 := va_A W0 H.size) (fr_runN (Qc := (fun A => QV D W1 A)) C0 w K hlk hM hR hcs isC h1 hnd hn hls hst hroom hdg) w.2.2.1 (fun q _ h => hF q h) hF (fun u t H1 locs1 ht hvm hw hB hz hk hS => ?_)
  have hB1 : va_P D vwCl W1 t.heap := hB.1
  rw [ht] at hB1
  obtain ⟨g1, g2⟩ := putW_ok w.1 w.2.1 isC h1 hf hk hB1
  rw [hw'] at g1 g2
  exact kk H1 locs1 ⟨g1, g2, hS, w.2.2.2⟩
end CR
