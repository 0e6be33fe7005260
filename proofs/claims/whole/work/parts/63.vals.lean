/-! The values that are kept, and those made anew from the starts -/
theorem vaR_0 {F : Nat → Nat → zp} {S : Nat → zp} {g k kn : Nat} {y : Nat → zp} (c : phor (F g) (zo (kn - g)) 7 0 = 0) : vaR F S g (k + 1) kn y = (false, kn, y) := if_pos c
theorem vaR_1 {F : Nat → Nat → zp} {S : Nat → zp} {g k kn : Nat} {y : Nat → zp} (c : ¬ phor (F g) (zo (kn - g)) 7 0 = 0) : vaR F S g (k + 1) kn y = vaR F S g k (kn + 1) (va_up y kn (demI F S y (kn - g) g * zinv (phor (F g) (zo (kn - g)) 7 0))) := if_neg c
theorem vaR_rng {F : Nat → Nat → zp} {S : Nat → zp} {g : Nat} : ∀ (k kn : Nat) (y : Nat → zp), kn ≤ (vaR F S g k kn y).2.1 ∧ (vaR F S g k kn y).2.1 ≤ kn + k
  | 0, kn, y => ⟨Nat.le_refl _, Nat.le_refl _⟩
  | k + 1, kn, y => by
    by_cases c : phor (F g) (zo (kn - g)) 7 0 = 0
    · rw [vaR_0 c]; exact ⟨Nat.le_refl _, by show kn ≤ _; omega⟩
    · rw [vaR_1 c]
      obtain ⟨a, b⟩ := vaR_rng (F := F) (S := S) (g := g) k (kn + 1) (va_up y kn (demI F S y (kn - g) g * zinv (phor (F g) (zo (kn - g)) 7 0)))
      exact ⟨by omega, by omega⟩
theorem vaR_stop {F : Nat → Nat → zp} {S : Nat → zp} {g : Nat} : ∀ (k kn : Nat) (y : Nat → zp), vaR F S g ((vaR F S g k kn y).2.1 - kn) kn y = (true, (vaR F S g k kn y).2.1, (vaR F S g k kn y).2.2)
  | 0, kn, y => by
    show vaR F S g (kn - kn) kn y = (true, kn, y)
    rw [Nat.sub_self]; rfl
  | k + 1, kn, y => by
    by_cases c : phor (F g) (zo (kn - g)) 7 0 = 0
    · rw [vaR_0 c]
      show vaR F S g (kn - kn) kn y = (true, kn, y)
      rw [Nat.sub_self]; rfl
    · rw [vaR_1 c]
      have ih := vaR_stop (F := F) (S := S) (g := g) k (kn + 1) (va_up y kn (demI F S y (kn - g) g * zinv (phor (F g) (zo (kn - g)) 7 0)))
      have hr := vaR_rng (F := F) (S := S) (g := g) k (kn + 1) (va_up y kn (demI F S y (kn - g) g * zinv (phor (F g) (zo (kn - g)) 7 0)))
      generalize hR : vaR F S g k (kn + 1) (va_up y kn (demI F S y (kn - g) g * zinv (phor (F g) (zo (kn - g)) 7 0))) = R at ih hr ⊢
      rw [show R.2.1 - kn = (R.2.1 - (kn + 1)) + 1 by omega, vaR_1 c]
      exact ih
theorem vaR_comp {F : Nat → Nat → zp} {S : Nat → zp} {g : Nat} (b : Nat) : ∀ (a kn : Nat) (y : Nat → zp), (vaR F S g a kn y).1 = true → vaR F S g (a + b) kn y = vaR F S g b (kn + a) (vaR F S g a kn y).2.2
  | 0, kn, y, _ => by rw [Nat.zero_add]; rfl
  | a + 1, kn, y, h => by
    by_cases c : phor (F g) (zo (kn - g)) 7 0 = 0
    · rw [vaR_0 c] at h; cases h
    · rw [vaR_1 c] at h ⊢
      rw [show a + 1 + b = (a + b) + 1 by omega, vaR_1 c, vaR_comp b a (kn + 1) _ h, show kn + 1 + a = kn + (a + 1) by omega]
theorem vaR_pre {F : Nat → Nat → zp} {S : Nat → zp} {g : Nat} (b : Nat) : ∀ (a kn : Nat) (y : Nat → zp), (vaR F S g (a + b) kn y).1 = true → (vaR F S g a kn y).1 = true
  | 0, kn, y, _ => rfl
  | a + 1, kn, y, h => by
    rw [show a + 1 + b = (a + b) + 1 by omega] at h
    by_cases c : phor (F g) (zo (kn - g)) 7 0 = 0
    · rw [vaR_0 c] at h; cases h
    · rw [vaR_1 c] at h ⊢
      exact vaR_pre b a (kn + 1) _ h
theorem vaR_low {F : Nat → Nat → zp} {S : Nat → zp} {g : Nat} : ∀ (k kn : Nat) (y : Nat → zp) (j : Nat), j < kn → (vaR F S g k kn y).2.2 j = y j
  | 0, kn, y, j, _ => rfl
  | k + 1, kn, y, j, hj => by
    by_cases c : phor (F g) (zo (kn - g)) 7 0 = 0
    · rw [vaR_0 c]
    · rw [vaR_1 c, vaR_low k (kn + 1) _ j (by omega), va_un (by omega)]
/-- what is kept of the values is what the starts make -/
def VOk (F : Nat → Nat → zp) (S : Nat → zp) (sn kv : Nat) (y sr : Nat → zp) : Prop := sn ≤ 12 ∧ sn ≤ kv ∧ kv ≤ 301 ∧ (∀ j, j < sn → y j = sr j) ∧ ∀ g, GreatS F (some g) → g ≤ sn → ∃ y', vaR F S g (kv - sn) sn sr = (true, kv, y') ∧ ∀ j, j < kv → y' j = y j
theorem VOk_new {F : Nat → Nat → zp} {S : Nat → zp} {sn : Nat} {y sr : Nat → zp} (h12 : sn ≤ 12) (h : ∀ j, j < sn → y j = sr j) : VOk F S sn sn y sr := ⟨h12, Nat.le_refl _, by omega, h, fun g _ _ => ⟨sr, by rw [Nat.sub_self]; rfl, fun j hj => (h j hj).symm⟩⟩
theorem VOk.at {F : Nat → Nat → zp} {S : Nat → zp} {sn kv : Nat} {y sr : Nat → zp} (h : VOk F S sn kv y sr) {g : Nat} (hg : GreatS F (some g)) (hs : g ≤ sn) {n : Nat} (hn : n < 301) :
    ((vaR F S g (n + 1 - kv) kv y).1 = (vaR F S g (n + 1 - sn) sn sr).1 ∧ ((vaR F S g (n + 1 - kv) kv y).1 = true → (vaR F S g (n + 1 - kv) kv y).2.2 n = (vaR F S g (n + 1 - sn) sn sr).2.2 n)) := by
  obtain ⟨h12, h1, h3, hy, hv⟩ := h
  obtain ⟨y', e, hy'⟩ := hv g hg hs
  by_cases c : kv ≤ n + 1
  · have e2 : vaR F S g (n + 1 - sn) sn sr = vaR F S g (n + 1 - kv) kv y' := by
      have := vaR_comp (F := F) (S := S) (g := g) (n + 1 - kv) (kv - sn) sn sr (by rw [e])
      rw [e, show kv - sn + (n + 1 - kv) = n + 1 - sn by omega, show sn + (kv - sn) = kv by omega] at this
      exact this
    rw [e2]
    obtain ⟨p, q, r⟩ := vaR_congr (F := F) (S := S) (g := g) (n + 1 - kv) kv y y' (by omega) (fun j hj => (hy' j hj).symm)
    refine ⟨p, fun z => r n ?_⟩
    rw [vaR_full _ _ _ z]; omega
  · rw [show n + 1 - kv = 0 by omega]
    show true = _ ∧ (_ → y n = _)
    by_cases c2 : sn ≤ n + 1
    · have e3 : (vaR F S g (n + 1 - sn) sn sr).1 = true := vaR_pre (F := F) (S := S) (g := g) (kv - (n + 1)) (n + 1 - sn) sn sr (by
        rw [show n + 1 - sn + (kv - (n + 1)) = kv - sn by omega, e])
      refine ⟨e3.symm, fun _ => ?_⟩
      have e4 := vaR_comp (F := F) (S := S) (g := g) (kv - (n + 1)) (n + 1 - sn) sn sr e3
      rw [show n + 1 - sn + (kv - (n + 1)) = kv - sn by omega, e] at e4
      have e5 := vaR_low (F := F) (S := S) (g := g) (kv - (n + 1)) (sn + (n + 1 - sn)) (vaR F S g (n + 1 - sn) sn sr).2.2 n (by omega)
      rw [← e4] at e5
      rw [← hy' n (by omega)]
      exact e5
    · rw [show n + 1 - sn = 0 by omega]
      exact ⟨rfl, fun _ => hy n (by omega)⟩
theorem VOk.next {F : Nat → Nat → zp} {S : Nat → zp} {sn kv : Nat} {y sr : Nat → zp} (h : VOk F S sn kv y sr) {g : Nat} (hg : GreatS F (some g)) (hs : g ≤ sn) (hu : ∀ g', GreatS F (some g') → g' = g) {n : Nat} (hn : n < 301) : VOk F S sn (vaR F S g (n + 1 - kv) kv y).2.1 (vaR F S g (n + 1 - kv) kv y).2.2 sr := by
  obtain ⟨h12, h1, h3, hy, hv⟩ := h
  obtain ⟨r1, r2⟩ := vaR_rng (F := F) (S := S) (g := g) (n + 1 - kv) kv y
  refine ⟨h12, by omega, by omega, fun j hj => ?_, fun g' hg' _ => ?_⟩
  · rw [vaR_low _ _ _ _ (by omega)]; exact hy j hj
  · cases hu g' hg'
    obtain ⟨y', e, hy'⟩ := hv g hg hs
    have e1 := vaR_stop (F := F) (S := S) (g := g) (n + 1 - kv) kv y
    generalize vaR F S g (n + 1 - kv) kv y = R at e1 r1 r2 ⊢
    have e2 := vaR_comp (F := F) (S := S) (g := g) (R.2.1 - kv) (kv - sn) sn sr (by rw [e])
    rw [e, show kv - sn + (R.2.1 - kv) = R.2.1 - sn by omega, show sn + (kv - sn) = kv by omega] at e2
    obtain ⟨p, q, r⟩ := vaR_congr (F := F) (S := S) (g := g) (R.2.1 - kv) kv y' y (by omega) hy'
    rw [e1] at p q r
    refine ⟨(vaR F S g (R.2.1 - kv) kv y').2.2, ?_, fun j hj => r j (by rw [q]; exact hj)⟩
    rw [e2]
    exact Prod.ext p (Prod.ext q rfl)
