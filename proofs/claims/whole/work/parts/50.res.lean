/-! What run finds, and that it is one alone -/
def ResP (M : Nat → Nat → zp) (n : Nat) (v : Nat → zp) : Prop := ∃ C u pv, Ech M C u pv ∧ n = cnt pv 13 ∧ ∀ f, f < 13 → pv f = none → ∀ j, j < 13 → v (cnt pv f * 13 + j) = vecF C pv f j
def ResM (M : Nat → Nat → zp) (mt : Bool) (pa : Nat → zp) : Prop := ∃ C u pv, Ech M C u pv ∧ (mt = true ↔ ∀ i, i < 19 → u i = true ∨ C i 13 = 0) ∧ (mt = true → ∀ j, j < 13 → pa j = px C pv j)
def Sm (M : Nat → Nat → zp) : Prop := ∃ C u pv, Ech M C u pv ∧ 0 < cnt pv 13
def ResB (Mz : zp → Nat → Nat → zp) (Rt : zp → Prop) (pw : Nat) (ba : Nat → zp) (ma : Nat → Nat) (tm : Nat → Nat → zp) : Prop := Inc pw ba ∧ (∀ y, Has pw ba y ↔ y ≠ 0 ∧ Rt y ∧ Sm (Mz y)) ∧ ∀ k, k < pw → ResP (Mz (ba k)) (ma k) (tm k)
theorem cnt_surj {pv : Nat → Option Nat} : ∀ {n k : Nat}, k < cnt pv n → ∃ f, f < n ∧ pv f = none ∧ cnt pv f = k
  | 0, k, h => absurd h (by show ¬ k < 0; omega)
  | n + 1, k, h => by
    rw [cnt_s] at h
    by_cases c : pv n = none
    · rw [if_pos c] at h
      by_cases e : k = cnt pv n
      · exact ⟨n, by omega, c, e.symm⟩
      · obtain ⟨f, a, b, d⟩ := cnt_surj (pv := pv) (n := n) (k := k) (by omega)
        exact ⟨f, by omega, b, d⟩
    · rw [if_neg c] at h
      obtain ⟨f, a, b, d⟩ := cnt_surj (pv := pv) (n := n) (k := k) h
      exact ⟨f, by omega, b, d⟩
theorem ResP.uniq {M : Nat → Nat → zp} {n n' : Nat} {v v' : Nat → zp} (h : ResP M n v) (h' : ResP M n' v') : n = n' ∧ ∀ k, k < n → ∀ j, j < 13 → v (k * 13 + j) = v' (k * 13 + j) := by
  obtain ⟨C, u, pv, e, rfl, hv⟩ := h
  obtain ⟨C', u', pv', e', rfl, hv'⟩ := h'
  have hc : ∀ {m : Nat}, m ≤ 13 → cnt pv m = cnt pv' m := fun hm => ech_cnt e e' hm
  refine ⟨hc (Nat.le_refl _), fun k hk j hj => ?_⟩
  obtain ⟨f, hf, hp, rfl⟩ := cnt_surj hk
  rw [hv f hf hp j hj, hc (by omega), hv' f hf ((ech_free e e' hf).mp hp) j hj]
  exact ech_vecs e e' hf hp hj
theorem ResP.congr {M M' : Nat → Nat → zp} {n : Nat} {v v' : Nat → zp} (h : ResP M n v) (hv : ∀ m, m < 169 → v' m = v m) (hM : ∀ i, i < 19 → ∀ j, j < 14 → M' i j = M i j) : ResP M' n v' := by
  obtain ⟨C, u, pv, e, rfl, hv2⟩ := h
  refine ⟨C, u, pv, ⟨fun x => (Sol.congr hM x).symm.trans (e.1 x), e.2⟩, rfl, fun f hf hp j hj => ?_⟩
  have := cnt_le pv f
  rw [hv _ (by omega)]
  exact hv2 f hf hp j hj
theorem Ech.congr {M M' C : Nat → Nat → zp} {u : Nat → Bool} {pv : Nat → Option Nat} (e : Ech M C u pv) (hM : ∀ i, i < 19 → ∀ j, j < 14 → M' i j = M i j) : Ech M' C u pv := ⟨fun x => (Sol.congr hM x).symm.trans (e.1 x), e.2⟩
theorem Sm.congr {M M' : Nat → Nat → zp} (h : Sm M) (hM : ∀ i, i < 19 → ∀ j, j < 14 → M' i j = M i j) : Sm M' := by
  obtain ⟨C, u, pv, e, hc⟩ := h
  exact ⟨C, u, pv, e.congr hM, hc⟩
theorem Sm.not {M C : Nat → Nat → zp} {u : Nat → Bool} {pv : Nat → Option Nat} (e : Ech M C u pv) (hc : cnt pv 13 = 0) : ¬ Sm M := fun h => by
  obtain ⟨C', u', pv', e', hc'⟩ := h
  rw [ech_cnt e' e (Nat.le_refl _)] at hc'
  omega
theorem ResM.congr {M M' : Nat → Nat → zp} {mt : Bool} {pa : Nat → zp} (h : ResM M mt pa) (hM : ∀ i, i < 19 → ∀ j, j < 14 → M' i j = M i j) : ResM M' mt pa := by
  obtain ⟨C, u, pv, e, hc⟩ := h
  exact ⟨C, u, pv, e.congr hM, hc⟩
theorem ResM.uniq {M : Nat → Nat → zp} {mt mt' : Bool} {pa pa' : Nat → zp} (h : ResM M mt pa) (h' : ResM M mt' pa') : mt = mt' ∧ (mt = true → ∀ j, j < 13 → pa j = pa' j) := by
  obtain ⟨C, u, pv, e, h1, h2⟩ := h
  obtain ⟨C', u', pv', e', h1', h2'⟩ := h'
  have hm := ech_meet e e'
  have hmm : mt = true ↔ mt' = true := h1.trans (hm.trans h1'.symm)
  refine ⟨?_, fun z j hj => ?_⟩
  · cases mt <;> cases mt' <;> simp_all
  · rw [h2 z j hj, h2' (hmm.mp z) j hj]
    exact ech_parts e e' (h1.mp z) hj
theorem Inc.len {n n' : Nat} {f f' : Nat → zp} (h : Inc n f) (h' : Inc n' f') (hs : ∀ y, Has n f y → Has n' f' y) : ∀ k, k < n → ∃ m, k ≤ m ∧ m < n' ∧ f' m = f k := by
  intro k
  induction k with
  | zero =>
    intro hk
    obtain ⟨m, hm, e⟩ := hs (f 0) ⟨0, hk, rfl⟩
    exact ⟨m, by omega, hm, e⟩
  | succ k ih =>
    intro hk
    obtain ⟨m, h1, h2, h3⟩ := ih (by omega)
    obtain ⟨m', h4, h5⟩ := hs (f (k + 1)) ⟨k + 1, hk, rfl⟩
    refine ⟨m', ?_, h4, h5⟩
    have hlt := h k (k + 1) (by omega) hk
    rw [← h3, ← h5] at hlt
    by_cases c : m' ≤ m
    · by_cases c2 : m' = m
      · rw [c2] at hlt; omega
      · have := h' m' m (by omega) h2; omega
    · omega
theorem Inc.uniq {n n' : Nat} {f f' : Nat → zp} (h : Inc n f) (h' : Inc n' f') (hs : ∀ y, Has n f y ↔ Has n' f' y) : n = n' ∧ ∀ k, k < n → f k = f' k := by
  have a := h.len h' (fun y => (hs y).mp)
  have b := h'.len h (fun y => (hs y).mpr)
  have hn : n = n' := by
    rcases Nat.lt_trichotomy n n' with c | c | c
    · obtain ⟨m, h1, h2, -⟩ := b (n' - 1) (by omega); omega
    · exact c
    · obtain ⟨m, h1, h2, -⟩ := a (n - 1) (by omega); omega
  subst hn
  refine ⟨rfl, fun k hk => ?_⟩
  obtain ⟨m, h1, h2, h3⟩ := a k hk
  obtain ⟨m', h1', h2', h3'⟩ := b k hk
  by_cases c : m = k
  · rw [c] at h3; exact h3.symm
  · by_cases c' : m' = k
    · rw [c'] at h3'; exact h3'
    · have x1 := h' k m (by omega) h2
      have x2 := h k m' (by omega) h2'
      rw [h3] at x1
      rw [h3'] at x2
      omega
theorem ResB.uniq {Mz : zp → Nat → Nat → zp} {Rt : zp → Prop} {pw pw' : Nat} {ba ba' : Nat → zp} {ma ma' : Nat → Nat} {tm tm' : Nat → Nat → zp} (h : ResB Mz Rt pw ba ma tm) (h' : ResB Mz Rt pw' ba' ma' tm') : pw = pw' ∧ ∀ k, k < pw → ba k = ba' k ∧ ma k = ma' k ∧ ∀ i, i < ma k → ∀ j, j < 13 → tm k (i * 13 + j) = tm' k (i * 13 + j) := by
  obtain ⟨h1, h2, h3⟩ := h
  obtain ⟨h1', h2', h3'⟩ := h'
  obtain ⟨e, he⟩ := h1.uniq h1' (fun y => (h2 y).trans (h2' y).symm)
  subst e
  refine ⟨rfl, fun k hk => ?_⟩
  have r := h3 k hk
  have r' := h3' k hk
  rw [← he k hk] at r'
  obtain ⟨a, b⟩ := r.uniq r'
  exact ⟨he k hk, a, b⟩
theorem ResB.congr {Mz Mz' : zp → Nat → Nat → zp} {Rt Rt' : zp → Prop} {pw : Nat} {ba : Nat → zp} {ma : Nat → Nat} {tm : Nat → Nat → zp} (h : ResB Mz Rt pw ba ma tm) (hM : ∀ z, ∀ i, i < 19 → ∀ j, j < 14 → Mz' z i j = Mz z i j) (hR : ∀ z, Rt' z ↔ Rt z) : ResB Mz' Rt' pw ba ma tm := by
  obtain ⟨h1, h2, h3⟩ := h
  refine ⟨h1, fun y => (h2 y).trans ?_, fun k hk => (h3 k hk).congr (fun _ _ => rfl) (hM _)⟩
  refine ⟨fun z => ⟨z.1, (hR y).mpr z.2.1, z.2.2.congr (hM y)⟩, fun z => ⟨z.1, (hR y).mp z.2.1, z.2.2.congr (fun i hi j hj => (hM y i hi j hj).symm)⟩⟩
/-- the bases below z have been gone through; c of the roots lie below z -/
def BI (Mz : zp → Nat → Nat → zp) (Rt : zp → Prop) (nr : Nat) (rt : Nat → zp) (z c pw : Nat) (ba : Nat → zp) (ma : Nat → Nat) (tm : Nat → Nat → zp) : Prop :=
  c ≤ nr ∧ pw ≤ c ∧ (∀ i, i < c → (rt i).val < z) ∧ (∀ i, c ≤ i → i < nr → z ≤ (rt i).val) ∧ Inc pw ba ∧ (∀ y, Has pw ba y ↔ y.val < z ∧ y ≠ 0 ∧ Rt y ∧ Sm (Mz y)) ∧ ∀ k, k < pw → ResP (Mz (ba k)) (ma k) (tm k)
section BIS
variable {Mz : zp → Nat → Nat → zp} {Rt : zp → Prop} {nr : Nat} {rt : Nat → zp} {z c pw : Nat} {ba : Nat → zp} {ma : Nat → Nat} {tm : Nat → Nat → zp}
theorem BI_none (h : BI Mz Rt nr rt z c pw ba ma tm) (hr : Inc nr rt) (hR : ∀ y, Has nr rt y ↔ Rt y) (hz : z < 32003) (hn : ¬ Rt (zo z)) : BI Mz Rt nr rt (z + 1) c pw ba ma tm := by
  obtain ⟨h1, h2, h3, h4, h5, h6, h7⟩ := h
  have hv : (zo z).val = z := Nat.mod_eq_of_lt hz
  refine ⟨h1, h2, fun i hi => by have := h3 i hi; omega, fun i hi hi2 => ?_, h5, fun y => (h6 y).trans ⟨fun w => ⟨by omega, w.2⟩, fun w => ⟨?_, w.2⟩⟩, h7⟩
  · have := h4 i hi hi2
    by_cases e : (rt i).val = z
    · exact absurd ((hR (zo z)).mp ⟨i, hi2, Fin.ext (e.trans hv.symm)⟩) hn
    · omega
  · by_cases e : y.val = z
    · have : y = zo z := Fin.ext (e.trans hv.symm)
      rw [this] at w
      exact absurd w.2.2.1 hn
    · omega
theorem BI_root (h : BI Mz Rt nr rt z c pw ba ma tm) (hr : Inc nr rt) (hR : ∀ y, Has nr rt y ↔ Rt y) (hz : z < 32003) (hn : Rt (zo z)) : c < nr ∧ rt c = zo z := by
  obtain ⟨h1, h2, h3, h4, h5, h6, h7⟩ := h
  have hv : (zo z).val = z := Nat.mod_eq_of_lt hz
  obtain ⟨i, hi, ei⟩ := (hR (zo z)).mpr hn
  have hci : c ≤ i := by
    by_cases e : c ≤ i
    · exact e
    · have := h3 i (by omega); rw [ei, hv] at this; omega
  refine ⟨by omega, ?_⟩
  by_cases e : c = i
  · rw [e]; exact ei
  · have a := hr c i (by omega) hi
    have b := h4 c (Nat.le_refl _) (by omega)
    rw [ei, hv] at a
    omega
theorem BI_skip (h : BI Mz Rt nr rt z c pw ba ma tm) (hr : Inc nr rt) (hR : ∀ y, Has nr rt y ↔ Rt y) (hz : z < 32003) (hn : Rt (zo z)) (hs : ¬ Sm (Mz (zo z))) {tm' : Nat → Nat → zp} (ht : ∀ k, k < pw → ∀ m, m < 169 → tm' k m = tm k m) : BI Mz Rt nr rt (z + 1) (c + 1) pw ba ma tm' := by
  have hcr := BI_root h hr hR hz hn
  obtain ⟨h1, h2, h3, h4, h5, h6, h7⟩ := h
  have hv : (zo z).val = z := Nat.mod_eq_of_lt hz
  refine ⟨by omega, by omega, fun i hi => ?_, fun i hi hi2 => ?_, h5, fun y => (h6 y).trans ⟨fun w => ⟨by omega, w.2⟩, fun w => ⟨?_, w.2⟩⟩, fun k hk => (h7 k hk).congr (ht k hk) (fun _ _ _ _ => rfl)⟩
  · by_cases e : i = c
    · rw [e, hcr.2, hv]; omega
    · have := h3 i (by omega); omega
  · have := hr c i (by omega) hi2; rw [hcr.2, hv] at this; omega
  · by_cases e : y.val = z
    · have : y = zo z := Fin.ext (e.trans hv.symm)
      rw [this] at w
      exact absurd w.2.2.2 hs
    · omega
theorem BI_take (h : BI Mz Rt nr rt z c pw ba ma tm) (hr : Inc nr rt) (hR : ∀ y, Has nr rt y ↔ Rt y) (hz : z < 32003) (hz0 : 0 < z) (hn : Rt (zo z)) (hs : Sm (Mz (zo z))) {ba' : Nat → zp} {ma' : Nat → Nat} {tm' : Nat → Nat → zp} (ht : ∀ k, k < pw → ba' k = ba k ∧ ma' k = ma k ∧ ∀ m, m < 169 → tm' k m = tm k m) (hb : ba' pw = zo z) (hP : ResP (Mz (zo z)) (ma' pw) (tm' pw)) : BI Mz Rt nr rt (z + 1) (c + 1) (pw + 1) ba' ma' tm' := by
  have hcr := BI_root h hr hR hz hn
  obtain ⟨h1, h2, h3, h4, h5, h6, h7⟩ := h
  have hv : (zo z).val = z := Nat.mod_eq_of_lt hz
  have hlow : ∀ k, k < pw → (ba k).val < z := fun k hk => ((h6 (ba k)).mp ⟨k, hk, rfl⟩).1
  refine ⟨by omega, by omega, fun i hi => ?_, fun i hi hi2 => ?_, fun i j hij hj => ?_, fun y => ⟨fun w => ?_, fun w => ?_⟩, fun k hk => ?_⟩
  · by_cases e : i = c
    · rw [e, hcr.2, hv]; omega
    · have := h3 i (by omega); omega
  · have := hr c i (by omega) hi2; rw [hcr.2, hv] at this; omega
  · by_cases e : j = pw
    · rw [e, hb, (ht i (by omega)).1, hv]; exact hlow i (by omega)
    · rw [(ht i (by omega)).1, (ht j (by omega)).1]; exact h5 i j hij (by omega)
  · obtain ⟨i, hi, e⟩ := w
    by_cases ei : i = pw
    · rw [ei, hb] at e
      rw [← e, hv]
      refine ⟨by omega, fun q => ?_, hn, hs⟩
      have := congrArg Fin.val q
      rw [hv] at this
      have : z = 0 := this
      omega
    · rw [(ht i (by omega)).1] at e
      have := (h6 y).mp ⟨i, by omega, e⟩
      exact ⟨by omega, this.2⟩
  · by_cases e : y.val = z
    · exact ⟨pw, by omega, by rw [hb]; exact Fin.ext (hv.trans e.symm)⟩
    · obtain ⟨i, hi, ei⟩ := (h6 y).mpr ⟨by omega, w.2⟩
      exact ⟨i, by omega, by rw [(ht i hi).1]; exact ei⟩
  · by_cases e : k = pw
    · rw [e, hb]; exact hP
    · obtain ⟨a, b, d⟩ := ht k (by omega)
      rw [a, b]
      exact (h7 k (by omega)).congr d (fun _ _ _ _ => rfl)
theorem BI_end (h : BI Mz Rt nr rt 32003 c pw ba ma tm) : ResB Mz Rt pw ba ma tm := by
  obtain ⟨h1, h2, h3, h4, h5, h6, h7⟩ := h
  exact ⟨h5, fun y => (h6 y).trans ⟨fun w => w.2, fun w => ⟨zl y, w⟩⟩, h7⟩
end BIS
theorem BI_start {Mz : zp → Nat → Nat → zp} {Rt : zp → Prop} {nr : Nat} {rt : Nat → zp} (hr : Inc nr rt) (ba : Nat → zp) (ma : Nat → Nat) (tm : Nat → Nat → zp) : ∃ c, BI Mz Rt nr rt 1 c 0 ba ma tm := by
  have base : ∀ c, c ≤ nr → (∀ i, i < c → (rt i).val < 1) → (∀ i, c ≤ i → i < nr → 1 ≤ (rt i).val) → BI Mz Rt nr rt 1 c 0 ba ma tm := fun c h1 h2 h3 =>
    ⟨h1, by omega, h2, h3, fun i j _ hj => absurd hj (by omega), fun y => ⟨fun w => absurd w.choose_spec.1 (by omega), fun w => absurd (Fin.ext (show y.val = 0 by have := w.1; omega)) w.2.1⟩, fun k hk => absurd hk (by omega)⟩
  by_cases c : 0 < nr ∧ (rt 0).val = 0
  · refine ⟨1, base 1 (by omega) (fun i hi => by rw [show i = 0 by omega]; omega) (fun i h1 h2 => ?_)⟩
    have := hr 0 i (by omega) h2; omega
  · refine ⟨0, base 0 (by omega) (fun i hi => absurd hi (by omega)) (fun i h1 h2 => ?_)⟩
    by_cases e : i = 0
    · subst e; omega
    · have := hr 0 i (by omega) h2; omega
