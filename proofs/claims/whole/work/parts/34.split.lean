/-! One root split off; all roots, in order -/
theorem zpow_zero {n : Nat} (h : 0 < n) : zpow 0 n = 0 := by
  obtain ⟨m, rfl⟩ : ∃ m, n = m + 1 := ⟨n - 1, by omega⟩
  exact Fin.mul_zero _
/-- half of Fermat's power: 1 or -1 -/
theorem zpow_half {x : zp} (h : x ≠ 0) : zpow x 16001 = 1 ∨ zpow x 16001 = -1 := by
  have e : zpow x 16001 * zpow x 16001 = 1 := (zpow_add x 16001 16001).symm.trans (fermat h)
  generalize zpow x 16001 = y at e
  have : (y - 1) * (y + 1) = 0 := by grind
  rcases zno this with z | z
  · exact Or.inl (by grind)
  · exact Or.inr (by grind)
theorem zpow_neg_half (x : zp) : zpow (-x) 16001 = -(zpow x 16001) := by
  have e : zpow (-x) 16001 = zpow (-x) (2 * 8000) * (-x) := rfl
  have e2 : zpow x 16001 = zpow x (2 * 8000) * x := rfl
  rw [e, e2, zpow_neg_even]
  generalize zpow x (2 * 8000) = y
  grind
/-- a turn's part: its roots are those that the shift makes squares -/
theorem spQ_spec {p : Nat → zp} {s sh : Nat} (hp : Spl p s) (h1 : 1 ≤ s) (hsh : sh < 32003) : ∃ t, Spl (spQ p sh) t ∧ t ≤ s ∧ ∀ x, ev (spQ p sh) 7 x = 0 ↔ ev p 7 x = 0 ∧ zpow (zo sh + x) 16001 = 1 := by
  have hp0 := hp
  obtain ⟨hm, hs, -⟩ := hp
  obtain ⟨r1, -⟩ := rl_cong (c := zo sh) hm h1 (by omega) (show 16001 < 2 ^ 15 by decide)
  have hev := fun x hx => rl_ev (c := zo sh) (e := 16001) hm h1 (by omega) (by decide) (x := x) hx
  unfold spQ
  generalize rlS (zo sh) 16001 p 15 rl1 = W at r1 hev
  have hW7 : pz 7 W := pz_le r1 (by omega)
  have hV7 := pz_psub1 (k := 0) hW7 (by decide)
  have hd7 := pdeg_le (psub1 W 0) 7
  obtain ⟨t, ht, g1, g2, g3, g4⟩ := gcR_spec (k := 8) hm hs hV7 (by omega)
  generalize gcR 8 p (psub1 W 0) = G at g1 g2 g3 g4
  have hV : ∀ x, ev p 7 x = 0 → ev (psub1 W 0) 7 x = zpow (zo sh + x) 16001 - 1 := fun x hx => by
    rw [psub1_eq, ev_sub, hev x hx, ev_mono 1 0 7 x (by decide)]
    show _ - 1 * 1 = _
    grind
  obtain ⟨d1, d2⟩ := hp0.dv g1 ht g2
  refine ⟨t, d1, d2, fun x => ⟨fun hx => ?_, fun hx => ?_⟩⟩
  · have h2 := Dv.ev0 g1 ht (pz_le hm.2 (by omega)) g2 hx
    have h3 := Dv.ev0 g1 ht hV7 g3 hx
    rw [hV x h2] at h3
    exact ⟨h2, by grind⟩
  · exact g4 x hx.1 (by rw [hV x hx.1, hx.2]; grind)
theorem Spl.deg {p : Nat → zp} {s : Nat} (h : Spl p s) : pdeg p 7 = s + 1 := h.1.deg h.2.1
/-- the turns: what is left splits, is not nothing, and no shift parts its roots -/
theorem spR_spec : ∀ {k sh s : Nat} {p : Nat → zp}, Spl p s → 1 ≤ s → sh + k ≤ 32003 → ∃ t, Spl (spR k sh p) t ∧ 1 ≤ t ∧ (∀ x, ev (spR k sh p) 7 x = 0 → ev p 7 x = 0) ∧
    (2 ≤ t → ∀ a, sh ≤ a → a < sh + k → ∀ x y, ev (spR k sh p) 7 x = 0 → ev (spR k sh p) 7 y = 0 → zpow (zo a + x) 16001 = 1 → zpow (zo a + y) 16001 = 1)
  | 0, sh, s, p, hp, h1, _ => ⟨s, hp, h1, fun x h => h, fun _ a h2 h3 => absurd h3 (by omega)⟩
  | k + 1, sh, s, p, hp, h1, hk => by
    unfold spR
    rw [hp.deg]
    by_cases c : s + 1 ≤ 2
    · rw [if_pos c]
      exact ⟨s, hp, h1, fun x h => h, fun z => absurd z (by omega)⟩
    · rw [if_neg c]
      obtain ⟨q, q1, q2, q3⟩ := spQ_spec (sh := sh) hp h1 (by omega)
      have hd : spN p sh = if 1 < q + 1 ∧ q + 1 < s + 1 then spQ p sh else p := by unfold spN; rw [q1.deg, hp.deg]
      by_cases cc : 1 < q + 1 ∧ q + 1 < s + 1
      · rw [hd, if_pos cc]
        obtain ⟨t, t1, t2, t3, t4⟩ := spR_spec (k := k) (sh := sh + 1) q1 (by omega) (by omega)
        refine ⟨t, t1, t2, fun x hx => ((q3 x).mp (t3 x hx)).1, fun z a h2 h3 x y hx hy hxa => ?_⟩
        by_cases e : a = sh
        · subst e; exact ((q3 y).mp (t3 y hy)).2
        · exact t4 z a (by omega) (by omega) x y hx hy hxa
      · rw [hd, if_neg cc]
        obtain ⟨t, t1, t2, t3, t4⟩ := spR_spec (k := k) (sh := sh + 1) hp h1 (by omega)
        refine ⟨t, t1, t2, t3, fun z a h2 h3 x y hx hy hxa => ?_⟩
        by_cases e : a = sh
        · subst e
          have hxq : ev (spQ p a) 7 x = 0 := (q3 x).mpr ⟨t3 x hx, hxa⟩
          obtain ⟨L, l1, l2, l3⟩ := q1.all
          have hpos : 0 < q := by
            have := (l3 x).mp hxq
            rcases L with _ | ⟨b, L⟩
            · cases this
            · simp only [List.length_cons] at l2; omega
          have hqs : q = s := by omega
          obtain ⟨L2, m1, m2, m3⟩ := hp.all
          have hyp := t3 y hy
          by_cases cy : ev (spQ p a) 7 y = 0
          · exact ((q3 y).mp cy).2
          · exfalso
            have := rbound hp.1 (y :: L) (List.nodup_cons.mpr ⟨fun z2 => cy ((l3 y).mpr z2), l1⟩) (fun w hw => by
              rw [← hp.1.ev7 hp.2.1]
              rcases List.mem_cons.mp hw with rfl | hw
              · exact hyp
              · exact ((q3 w).mp ((l3 w).mpr hw)).1)
            simp only [List.length_cons] at this
            omega
        · exact t4 z a (by omega) (by omega) x y hx hy hxa
theorem zo_neg_add (x : zp) : zo (-x).val + x = 0 := by rw [zo_self]; grind
theorem split_one {p : Nat → zp} {s : Nat} (hp : Spl p s) (h1 : 1 ≤ s) : Spl (spR 32003 0 p) 1 := by
  obtain ⟨t, t1, t2, t3, t4⟩ := spR_spec (k := 32003) (sh := 0) hp h1 (by omega)
  by_cases c : t = 1
  · rw [← c]; exact t1
  · exfalso
    have t4 := t4 (by omega)
    obtain ⟨L, l1, l2, l3⟩ := t1.all
    obtain ⟨x, y, hxy, hx, hy⟩ : ∃ x y : zp, x ≠ y ∧ x ∈ L ∧ y ∈ L := by
      rcases L with _ | ⟨x, _ | ⟨y, L⟩⟩
      · simp at l2; omega
      · simp at l2; omega
      · exact ⟨x, y, fun e => by subst e; simp at l1, by simp, by simp⟩
    have hx := (l3 x).mpr hx
    have hy := (l3 y).mpr hy
    have key : ∀ a b : zp, a ≠ b → ev (spR 32003 0 p) 7 a = 0 → ev (spR 32003 0 p) 7 b = 0 → zpow (b - a) 16001 = -1 := fun a b hab ha hb => by
      have hne : b - a ≠ 0 := fun z => hab (by grind)
      refine (zpow_half hne).resolve_left (fun z => ?_)
      have e1 : zo (-a).val + b = b - a := by rw [zo_self]; grind
      have := t4 (-a).val (by omega) (by have := zl (-a); omega) b a hb ha (by rw [e1]; exact z)
      rw [zo_neg_add, zpow_zero (by decide)] at this
      exact absurd this (by decide)
    have k1 := key x y hxy hx hy
    have k2 := key y x (fun e => hxy e.symm) hy hx
    rw [show x - y = -(y - x) by grind, zpow_neg_half, k1] at k2
    exact absurd k2 (by decide)
/-- the root that splitOffRoot answers -/
theorem split_root {p : Nat → zp} {s : Nat} (hp : Spl p s) (h1 : 1 ≤ s) : ev p 7 (-(spR 32003 0 p 0)) = 0 := by
  have h := split_one hp h1
  obtain ⟨t, t1, t2, t3, -⟩ := spR_spec (k := 32003) (sh := 0) hp h1 (by omega)
  refine t3 _ ?_
  rw [h.1.ev7 h.2.1]
  have e : ev (spR 32003 0 p) (1 + 1) (-(spR 32003 0 p 0)) = (0 + spR 32003 0 p 0 * 1) + spR 32003 0 p 1 * (1 * -(spR 32003 0 p 0)) := rfl
  rw [e, h.1.1]; grind
/-- Horner's quotient as divideOut makes it -/
theorem dvR_eq {x : zp} {r : Nat → zp} {s : Nat} (hz : pz (s + 2) r) : ∀ {k : Nat} {q : Nat → zp} {c : zp}, (∀ m, k = m + 1 → c = hqt r x s m) → (∀ j, j < k → q j = r j) → (∀ j, k ≤ j → q j = hqt r x s j) → dvR x k c q = hqt r x s
  | 0, q, c, _, _, h2 => funext fun j => h2 j (Nat.zero_le j)
  | k + 1, q, c, hc, h1, h2 => by
    have hc : c = hqt r x s k := hc k rfl
    unfold dvR
    refine dvR_eq hz (fun m hm => ?_) (fun j hj => ?_) (fun j hj => ?_)
    · subst hm
      rw [h1 (m + 1) (by omega), hc, hqt_rec hz m]; grind
    · rw [va_un (by omega)]; exact h1 j (by omega)
    · by_cases e : j = k
      · subst e; rw [va_us]; exact hc
      · rw [va_un e]; exact h2 j (by omega)
theorem hqt_hi {r : Nat → zp} {x : zp} {s j : Nat} (h : s + 1 ≤ j) : hqt r x s j = 0 := by
  unfold hqt; rw [show s + 1 - j = 0 by omega]; rfl
theorem dvR_spl {r : Nat → zp} {s : Nat} {x : zp} (hr : Spl r (s + 1)) (hx : ev r 7 x = 0) : Spl (dvR x 7 0 r) s ∧ ∀ y, ev (dvR x 7 0 r) 7 y = 0 ↔ ev r 7 y = 0 ∧ y ≠ x := by
  have h7 := hr.2.1
  have e : dvR x 7 0 r = hqt r x s := dvR_eq hr.1.2 (fun m hm => by rw [hqt_hi (by omega)]) (fun _ _ => rfl) (fun j hj => by rw [hqt_hi (by omega), hr.1.2 j (by omega)])
  rw [e]
  have hx1 : ev r (s + 2) x = 0 := by rw [← hr.1.ev7 h7]; exact hx
  obtain ⟨f1, -⟩ := factor_thm hr.1 hx1
  have fe : ∀ y, ev r 7 y = (y - x) * ev (hqt r x s) 7 y := fun y => by
    rw [hr.1.ev7 h7, f1.ev7 (by omega)]; exact factor_ev hr.1 hx1
  obtain ⟨L, l1, l2, l3⟩ := hr.all
  have hq : ∀ y, y ≠ x → ev r 7 y = 0 → ev (hqt r x s) 7 y = 0 := fun y hy h0 => by
    rw [fe y] at h0
    exact (zno h0).resolve_left (fun z => hy (by grind))
  have hnd := l1.filter (fun y => !decide (y = x))
  have hlen : (L.filter (fun y => !decide (y = x))).length = s := by
    have n1 := len_filter (fun y => decide (y = x)) L
    have n2 : (L.filter (fun y => decide (y = x))).length = 1 := by
      have hxL := (l3 x).mp hx
      clear l2 l3 n1 hnd
      induction L with
      | nil => cases hxL
      | cons a L ih =>
        have nd := List.nodup_cons.mp l1
        by_cases c : a = x
        · subst c
          rw [List.filter_cons_of_pos (by simp)]
          have : L.filter (fun y => decide (y = a)) = [] := List.filter_eq_nil_iff.mpr (fun b hb => by
            simp only [decide_eq_true_eq]
            intro z; subst z; exact nd.1 hb)
          rw [this]; rfl
        · rw [List.filter_cons_of_neg (by simp [c])]
          exact ih nd.2 ((List.mem_cons.mp hxL).resolve_left (fun z => c z.symm))
    omega
  have hmem : ∀ y, y ∈ L.filter (fun y => !decide (y = x)) → ev (hqt r x s) 7 y = 0 ∧ y ≠ x := fun y hy => by
    obtain ⟨m1, m2⟩ := List.mem_filter.mp hy
    have hne : y ≠ x := fun z => by subst z; simp at m2
    exact ⟨hq y hne ((l3 y).mpr m1), hne⟩
  refine ⟨⟨f1, by omega, _, hnd, hlen, fun y hy => (hmem y hy).1⟩, fun y => ⟨fun hy => ⟨by rw [fe y, hy]; grind, fun z => ?_⟩, fun hy => hq y hy.2 hy.1⟩⟩
  subst z
  have := rbound f1 (y :: L.filter (fun w => !decide (w = y))) (List.nodup_cons.mpr ⟨fun z => (hmem y z).2 rfl, hnd⟩) (fun w hw => by
    rw [← f1.ev7 (by omega)]
    rcases List.mem_cons.mp hw with rfl | hw
    · exact hy
    · exact (hmem w hw).1)
  simp only [List.length_cons] at this
  omega
/-- the first n numbers grow -/
def Inc (n : Nat) (f : Nat → zp) : Prop := ∀ i j, i < j → j < n → (f i).val < (f j).val
def Has (n : Nat) (f : Nat → zp) (x : zp) : Prop := ∃ i, i < n ∧ f i = x
theorem insR_spec (x : zp) : ∀ {k : Nat} {f : Nat → zp}, Inc k f → ¬ Has k f x → Inc (k + 1) (insR x k f) ∧ (∀ y, Has (k + 1) (insR x k f) y ↔ y = x ∨ Has k f y) ∧ ∀ j, k < j → insR x k f j = f j
  | 0, f, _, _ => by
    refine ⟨fun i j h1 h2 => absurd h2 (by omega), fun y => ⟨fun ⟨i, h1, h2⟩ => Or.inl ?_, fun h => ?_⟩, fun j hj => va_un (by omega)⟩
    · rw [show i = 0 by omega] at h2
      rw [← h2]; exact va_us
    · rcases h with rfl | ⟨i, h1, -⟩
      · exact ⟨0, by omega, va_us⟩
      · exact absurd h1 (by omega)
  | k + 1, f, hs, hx => by
    unfold insR
    by_cases c : (f k).val ≤ x.val
    · rw [if_pos c]
      have hlt : (f k).val < x.val := Nat.lt_of_le_of_ne c (fun z => hx ⟨k, by omega, Fin.ext z⟩)
      refine ⟨fun i j h1 h2 => ?_, fun y => ⟨fun ⟨i, h1, h2⟩ => ?_, fun h => ?_⟩, fun j hj => va_un (by omega)⟩
      · by_cases e : j = k + 1
        · subst e
          rw [va_us, va_un (by omega)]
          by_cases e2 : i = k
          · subst e2; exact hlt
          · have := hs i k (by omega) (by omega); omega
        · rw [va_un e, va_un (by omega)]; exact hs i j h1 (by omega)
      · by_cases e : i = k + 1
        · subst e; rw [va_us] at h2; exact Or.inl h2.symm
        · rw [va_un e] at h2; exact Or.inr ⟨i, by omega, h2⟩
      · rcases h with rfl | ⟨i, h1, h2⟩
        · exact ⟨k + 1, by omega, va_us⟩
        · exact ⟨i, by omega, by rw [va_un (by omega)]; exact h2⟩
    · rw [if_neg c]
      have hf : ∀ j, j < k → va_up f (k + 1) (f k) j = f j := fun j hj => va_un (by omega)
      have hs' : Inc k (va_up f (k + 1) (f k)) := fun i j h1 h2 => by rw [hf i (by omega), hf j h2]; exact hs i j h1 (by omega)
      have hx' : ¬ Has k (va_up f (k + 1) (f k)) x := fun ⟨i, h1, h2⟩ => hx ⟨i, by omega, by rw [← hf i h1]; exact h2⟩
      obtain ⟨a1, a2, a3⟩ := insR_spec x hs' hx'
      have htop : insR x k (va_up f (k + 1) (f k)) (k + 1) = f k := (a3 (k + 1) (by omega)).trans va_us
      have hmem : ∀ i, i < k + 1 → (insR x k (va_up f (k + 1) (f k)) i).val < (f k).val := fun i hi => by
        rcases (a2 _).mp ⟨i, hi, rfl⟩ with z | ⟨m, m1, m2⟩
        · rw [z]; omega
        · rw [← m2, hf m m1]; exact hs m k m1 (by omega)
      refine ⟨fun i j h1 h2 => ?_, fun y => ⟨fun ⟨i, h1, h2⟩ => ?_, fun h => ?_⟩, fun j hj => (a3 j (by omega)).trans (va_un (by omega))⟩
      · by_cases e : j = k + 1
        · subst e; rw [htop]; exact hmem i h1
        · exact a1 i j h1 (by omega)
      · by_cases e : i = k + 1
        · subst e; rw [htop] at h2; exact Or.inr ⟨k, by omega, h2⟩
        · rcases (a2 y).mp ⟨i, by omega, h2⟩ with z | ⟨m, m1, m2⟩
          · exact Or.inl z
          · exact Or.inr ⟨m, by omega, by rw [← hf m m1]; exact m2⟩
      · rcases h with z | ⟨i, h1, h2⟩
        · obtain ⟨m, m1, m2⟩ := (a2 y).mpr (Or.inl z)
          exact ⟨m, by omega, m2⟩
        · by_cases e : i = k
          · subst e; exact ⟨i + 1, by omega, htop.trans h2⟩
          · obtain ⟨m, m1, m2⟩ := (a2 y).mpr (Or.inr ⟨i, by omega, by rw [hf i (by omega)]; exact h2⟩)
            exact ⟨m, by omega, m2⟩
theorem fdR_spec : ∀ {k n : Nat} {f r : Nat → zp}, Spl r k → Inc n f → (∀ x, ev r 7 x = 0 → ¬ Has n f x) → (fdR k n f r).1 = n + k ∧ Inc (n + k) (fdR k n f r).2.1 ∧ ∀ y, Has (n + k) (fdR k n f r).2.1 y ↔ Has n f y ∨ ev r 7 y = 0
  | 0, n, f, r, hr, hs, _ => by
    refine ⟨rfl, hs, fun y => ⟨fun h => Or.inl h, fun h => h.resolve_right (fun z => ?_)⟩⟩
    obtain ⟨L, l1, l2, l3⟩ := hr.all
    have := (l3 y).mp z
    rw [List.length_eq_zero_iff.mp l2] at this
    cases this
  | k + 1, n, f, r, hr, hs, hd => by
    have hx := split_root hr (by omega)
    unfold fdR
    generalize -(spR 32003 0 r 0) = x at hx
    obtain ⟨d1, d2⟩ := dvR_spl hr hx
    obtain ⟨i1, i2, -⟩ := insR_spec x hs (hd x hx)
    obtain ⟨g1, g2, g3⟩ := fdR_spec (k := k) (n := n + 1) d1 i1 (fun y hy z => by
      obtain ⟨e1, e2⟩ := (d2 y).mp hy
      rcases (i2 y).mp z with w | w
      · exact e2 w
      · exact hd y e1 w)
    rw [show n + 1 + k = n + (k + 1) by omega] at g1 g2 g3
    refine ⟨g1, g2, fun y => (g3 y).trans ?_⟩
    rw [i2 y, d2 y]
    constructor
    · rintro ((rfl | h) | h)
      · exact Or.inr hx
      · exact Or.inl h
      · exact Or.inr h.1
    · rintro (h | h)
      · exact Or.inl (Or.inr h)
      · by_cases c : y = x
        · exact Or.inl (Or.inl c)
        · exact Or.inr ⟨h, c⟩
/-- WHAT find FINDS: all roots, in order, six at most -/
theorem find_spec {q f : Nat → zp} (hq : pdeg q 7 ≠ 0) : (rtN q f).1 ≤ 6 ∧ Inc (rtN q f).1 (rtN q f).2.1 ∧ ∀ y, Has (rtN q f).1 (rtN q f).2.1 y ↔ ev q 7 y = 0 := by
  have hc : pz 7 (pcut 7 q) := pcut_z 7 q
  have hev : ∀ y, ev (pcut 7 q) 7 y = ev q 7 y := fun y => zs_congr (fun i hi => by rw [show pcut 7 q i = q i from if_pos hi])
  have hdg : ∀ n, n ≤ 7 → pdeg (pcut 7 q) n = pdeg q n := fun n => by
    induction n with
    | zero => intro _; rfl
    | succ n ih =>
      intro hn
      unfold pdeg
      rw [show pcut 7 q n = q n from if_pos (by omega), ih (by omega)]
  obtain ⟨s, hs⟩ : ∃ s, pdeg (pcut 7 q) 7 = s + 1 := ⟨pdeg q 7 - 1, by rw [hdg 7 (by omega)]; omega⟩
  have hle := pdeg_le (pcut 7 q) 7
  have hM := pmon_Mon hc hs
  obtain ⟨t, t1, t2⟩ := ksR_spec hM (by omega)
  have hroot : ∀ y, ev (rtR q) 7 y = 0 ↔ ev q 7 y = 0 := fun y => by
    unfold rtR
    rw [t2 y, pmon_eq hc hs, ev_smul, hev]
    constructor
    · intro z; exact (zno z).resolve_left (zinv_ne (pdeg_lead hs))
    · intro z; rw [z]; grind
  have t1 : Spl (rtR q) t := t1
  unfold rtN
  rw [t1.deg, Nat.add_sub_cancel]
  obtain ⟨g1, g2, g3⟩ := fdR_spec (k := t) (n := 0) (f := f) t1 (fun i j h1 h2 => absurd h2 (by omega)) (fun x _ z => by obtain ⟨i, h1, -⟩ := z; omega)
  rw [Nat.zero_add] at g1 g2 g3
  rw [g1]
  refine ⟨by have := t1.2.1; omega, g2, fun y => (g3 y).trans ?_⟩
  rw [hroot y]
  exact ⟨fun h => h.resolve_left (fun z => by obtain ⟨i, h1, -⟩ := z; omega), Or.inr⟩
