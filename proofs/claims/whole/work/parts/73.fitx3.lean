def MXf (st : Int32) (be : Nat) (g : Nat → Nat → Int64) : Nat → Int64 := fun k => ME st be g (k / 3) (k % 3)
def SXf (st : Int32) (be : Nat) (g : Nat → Nat → Int64) : Nat → Int64 := fun k => SE st be g k
def bX (st : Int32) (be : Nat) (g : Nat → Nat → Int64) : Int64 := det3 (MXf st be g)
def pX (st : Int32) (be : Nat) (g : Nat → Nat → Int64) (i : Nat) : Int64 := PT (MXf st be g) (SXf st be g) i
def fX (st : Int32) (be : Nat) (g : Nat → Nat → Int64) : Int64 := bX st be g * g 4 4 - SE st be g 0 * pX st be g 0 - SE st be g 1 * pX st be g 1 - SE st be g 2 * pX st be g 2
theorem det3_congr {m m' : Nat → Int64} (h : ∀ k : Nat, k < 9 → m k = m' k) : det3 m = det3 m' := by
  simp only [det3, ts, cof]
  simp [h]
theorem PT_congr {m m' s s' : Nat → Int64} (h : ∀ k : Nat, k < 9 → m k = m' k) (h2 : ∀ k : Nat, k < 3 → s k = s' k) {i : Nat} (hi : i < 3) : PT m s i = PT m' s' i := by
  have e : ∀ j : Nat, j < 3 → cof m i j = cof m' i j := fun j hj => by
    unfold cof
    rw [h _ (by omega), h _ (by omega), h _ (by omega), h _ (by omega)]
  simp only [PT, ts]
  rw [e 0 (by omega), e (0 + 1) (by omega), e (0 + 1 + 1) (by omega), h2 0 (by omega), h2 (0 + 1) (by omega), h2 (0 + 1 + 1) (by omega)]
theorem oth_ne {be i : Nat} : ¬ oth be i = be := by unfold oth; split <;> omega
theorem oth_inj {be i j : Nat} (h : oth be i = oth be j) : i = j := by unfold oth at h; split at h <;> split at h <;> omega
theorem solve_at {pr mx sd pt : Nat → Int64} {st : Int32} {be : Nat} {g : Nat → Nat → Int64} (hbe : be < 4) (hf : f_X0_firstOf st = nI be) (hg : ∀ a b : Nat, a < 5 → b < 5 → f_X0_fromBase (nI be) pr (nI a) (nI b) = g a b) :
    (f_X0_solve pr mx sd pt st).1 = st ∧ (f_X0_solve pr mx sd pt st).2.1 = nI be ∧ (f_X0_solve pr mx sd pt st).2.2.1 = bX st be g ∧ (∀ i : Nat, i < 3 → (f_X0_solve pr mx sd pt st).2.2.2.2.2.1 (oth be i) = pX st be g i) ∧ (f_X0_solve pr mx sd pt st).2.2.2.2.2.1 be = bX st be g - pX st be g 0 - pX st be g 1 - pX st be g 2 ∧ (f_X0_solve pr mx sd pt st).2.2.2.2.2.2 = f_X1_put (fX st be g) (bX st be g) := by
  obtain ⟨q1, q2⟩ := eq2L (st := st) hbe hg 4 0 mx sd (by omega) (by omega)
  have e1 : ∀ k : Nat, k < 9 → (f_X0_writeEquations st (nI be) pr mx sd).1 k = MXf st be g k := fun k hk => (q1 k).trans (if_pos (by omega))
  have e2 : ∀ k : Nat, k < 3 → (f_X0_writeEquations st (nI be) pr mx sd).2 k = SXf st be g k := fun k hk => (q2 k).trans (if_pos (by omega))
  unfold f_X0_solve
  dsimp only
  rw [hf]
  generalize f_X0_writeEquations st (nI be) pr mx sd = z at e1 e2 ⊢
  have hd : f_X0_determinant z.1 = bX st be g := det_at.trans (det3_congr e1)
  have hp : ∀ i : Nat, i < 3 → PT z.1 z.2 i = pX st be g i := fun i hi => PT_congr e1 e2 hi
  rw [hd, parts_at hbe, hp 0 (by omega), hp 1 (by omega), hp 2 (by omega), misfit_at hbe, show f_X0_fromBase (nI be) pr 4 4 = g 4 4 from hg 4 4 (by omega) (by omega), e2 0 (by omega), e2 1 (by omega), e2 2 (by omega)]
  have n0 : ¬ oth be 0 = be := oth_ne
  have n1 : ¬ oth be 1 = be := oth_ne
  have n2 : ¬ oth be 2 = be := oth_ne
  have n01 : ¬ oth be 0 = oth be 1 := fun q => by have := oth_inj q; omega
  have n02 : ¬ oth be 0 = oth be 2 := fun q => by have := oth_inj q; omega
  have n12 : ¬ oth be 1 = oth be 2 := fun q => by have := oth_inj q; omega
  have v0 : vp_updL (vp_updL (vp_updL (vp_updL pt (oth be 0) (pX st be g 0)) (oth be 1) (pX st be g 1)) (oth be 2) (pX st be g 2)) be (bX st be g - pX st be g 0 - pX st be g 1 - pX st be g 2) (oth be 0) = pX st be g 0 := by
    unfold vp_updL
    rw [if_neg n0, if_neg n02, if_neg n01, if_pos rfl]
  have v1 : vp_updL (vp_updL (vp_updL (vp_updL pt (oth be 0) (pX st be g 0)) (oth be 1) (pX st be g 1)) (oth be 2) (pX st be g 2)) be (bX st be g - pX st be g 0 - pX st be g 1 - pX st be g 2) (oth be 1) = pX st be g 1 := by
    unfold vp_updL
    rw [if_neg n1, if_neg n12, if_pos rfl]
  have v2 : vp_updL (vp_updL (vp_updL (vp_updL pt (oth be 0) (pX st be g 0)) (oth be 1) (pX st be g 1)) (oth be 2) (pX st be g 2)) be (bX st be g - pX st be g 0 - pX st be g 1 - pX st be g 2) (oth be 2) = pX st be g 2 := by
    unfold vp_updL
    rw [if_neg n2, if_pos rfl]
  rw [v0, v1, v2]
  refine ⟨rfl, rfl, rfl, fun i hi => ?_, ?_, rfl⟩
  · rcases (show i = 0 ∨ i = 1 ∨ i = 2 by omega) with rfl | rfl | rfl
    · exact v0
    · exact v1
    · exact v2
  · unfold vp_updL
    rw [if_pos rfl]
