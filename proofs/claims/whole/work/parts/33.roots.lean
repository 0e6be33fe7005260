/-! Roots: how many there are; polynomials that split; what find finds -/
def hqt (g : Nat → zp) (x : zp) (s : Nat) : Nat → zp := fun j => zs (s + 1 - j) (fun i => g (j + 1 + i) * zpow x i)
theorem hqt_rec {g : Nat → zp} {x : zp} {s : Nat} (hz : pz (s + 2) g) (j : Nat) : hqt g x s j = g (j + 1) + x * hqt g x s (j + 1) := by
  unfold hqt
  by_cases c : j ≤ s
  · rw [show s + 1 - j = (s - j) + 1 by omega, zs_shift, show s + 1 - (j + 1) = s - j by omega, ← zs_mul]
    show g (j + 1 + 0) * 1 + _ = _
    rw [zs_congr (g := fun i => x * (g (j + 1 + 1 + i) * zpow x i)) (fun i _ => by
      show g (j + 1 + (i + 1)) * (zpow x i * x) = _
      rw [show j + 1 + (i + 1) = j + 1 + 1 + i by omega]; grind)]
    rw [Nat.add_zero]; grind
  · rw [show s + 1 - j = 0 by omega, show s + 1 - (j + 1) = 0 by omega, hz (j + 1) (by omega)]
    show (0 : zp) = 0 + x * 0
    grind
theorem factor_thm {g : Nat → zp} {x : zp} {s : Nat} (h : Mon g (s + 1)) (hx : ev g (s + 2) x = 0) : Mon (hqt g x s) s ∧ g = cv (lin (-x)) (hqt g x s) := by
  refine ⟨⟨?_, fun j hj => ?_⟩, ?_⟩
  · unfold hqt
    rw [show s + 1 - s = 1 by omega]
    show (0 : zp) + g (s + 1 + 0) * 1 = 1
    rw [Nat.add_zero, h.1]; grind
  · unfold hqt; rw [show s + 1 - j = 0 by omega]; rfl
  · rw [cv_lin]
    funext j
    by_cases c : 1 ≤ j
    · rw [if_pos c]
      have := hqt_rec (x := x) h.2 (j - 1)
      rw [show j - 1 + 1 = j by omega] at this
      rw [this]; grind
    · rw [if_neg c, show j = 0 by omega]
      unfold ev at hx
      rw [zs_shift] at hx
      have e : zs (s + 1) (fun i => g (i + 1) * zpow x (i + 1)) = x * hqt g x s 0 := by
        unfold hqt
        rw [Nat.sub_zero, ← zs_mul]
        exact zs_congr (fun i _ => by
          show g (i + 1) * (zpow x i * x) = _
          rw [show 0 + 1 + i = i + 1 by omega]; grind)
      rw [e] at hx
      have hx : g 0 * 1 + x * hqt g x s 0 = 0 := hx
      grind
theorem ev_lin (c x : zp) : ev (lin c) 2 x = c + x := by
  show (0 + (mono c 0 0 + mono 1 1 0) * 1) + (mono c 0 1 + mono 1 1 1) * (1 * x) = c + x
  rw [show mono c 0 0 = c from rfl, show mono (1 : zp) 1 0 = 0 from rfl, show mono c 0 1 = 0 from rfl, show mono (1 : zp) 1 1 = 1 from rfl]
  grind
theorem factor_ev {g : Nat → zp} {x y : zp} {s : Nat} (h : Mon g (s + 1)) (hx : ev g (s + 2) x = 0) : ev g (s + 2) y = (y - x) * ev (hqt g x s) (s + 1) y := by
  obtain ⟨h1, h2⟩ := factor_thm h hx
  have : ev g (2 + (s + 1)) y = ev (cv (lin (-x)) (hqt g x s)) (2 + (s + 1)) y := by rw [← h2]
  rw [ev_mul h1.2 y (lin_z (-x)), ev_lin, ev_le h.2 (by omega)] at this
  rw [this]; grind
theorem rbound : ∀ {s : Nat} {g : Nat → zp}, Mon g s → ∀ L : List zp, L.Nodup → (∀ x ∈ L, ev g (s + 1) x = 0) → L.length ≤ s
  | 0, g, h, [], _, _ => Nat.le_refl _
  | 0, g, h, x :: L, _, hr => by
    have : ev g 1 x = 0 := hr x List.mem_cons_self
    have e : ev g 1 x = 0 + g 0 * 1 := rfl
    rw [e, h.1] at this
    exact absurd this (by decide)
  | s + 1, g, h, [], _, _ => Nat.zero_le _
  | s + 1, g, h, x :: L, hn, hr => by
    have hx := hr x List.mem_cons_self
    obtain ⟨h1, -⟩ := factor_thm h hx
    have hn' := List.nodup_cons.mp hn
    have := rbound h1 L hn'.2 (fun y hy => by
      have e := hr y (List.mem_cons_of_mem _ hy)
      rw [factor_ev h hx] at e
      refine (zno e).resolve_left (fun z => hn'.1 ?_)
      have : y = x := by grind
      rw [← this]; exact hy)
    show L.length + 1 ≤ s + 1
    omega
theorem pf_top {K : Nat → zp} (h : pf K) : K = (fun _ => 0) ∨ ∃ a, K a ≠ 0 ∧ pz (a + 1) K := by
  obtain ⟨n, hn⟩ := h
  rcases hk : pdeg K n with _ | a
  · exact Or.inl (funext fun j => pz_deg hn j (by omega))
  · exact Or.inr ⟨a, pdeg_lead hk, fun j hj => pz_deg hn j (by omega)⟩
/-- the cofactor of a monic divisor of a monic polynomial -/
theorem cofactor {P G K : Nat → zp} {s t : Nat} (hP : Mon P s) (hG : Mon G t) (hK : pf K) (e : P = cv K G) : t ≤ s ∧ Mon K (s - t) := by
  rcases pf_top hK with z | ⟨a, ha, hz⟩
  · exfalso
    have : P s = 0 := by
      rw [e, z]
      exact zs_zero (fun i _ => by grind)
    rw [hP.1] at this
    exact absurd this (by decide)
  · have h1 := cv_top hz hG.2
    rw [← e, hG.1] at h1
    have hne : P (a + t) ≠ 0 := fun z => ha (by rw [z] at h1; grind)
    have hle : a + t ≤ s := by
      by_cases c : a + t ≤ s
      · exact c
      · exact absurd (hP.2 (a + t) (by omega)) hne
    have hge : s ≤ a + t := by
      by_cases c : s ≤ a + t
      · exact c
      · have := pz_cv hz hG.2 s (by omega)
        rw [← e, hP.1] at this
        exact absurd this (by decide)
    have hs : a + t = s := by omega
    rw [hs, hP.1] at h1
    refine ⟨by omega, ?_, ?_⟩
    · rw [show s - t = a by omega]; grind
    · rw [show s - t = a by omega]; exact hz
theorem len_filter (p : zp → Bool) : ∀ L : List zp, L.length = (L.filter p).length + (L.filter (fun x => !p x)).length
  | [] => rfl
  | x :: L => by
    have := len_filter p L
    cases hp : p x
    · rw [List.filter_cons_of_neg (by simp [hp]), List.filter_cons_of_pos (by simp [hp])]
      simp only [List.length_cons]; omega
    · rw [List.filter_cons_of_pos (by simp [hp]), List.filter_cons_of_neg (by simp [hp])]
      simp only [List.length_cons]; omega
/-- a divisor of a polynomial with all its roots has all its roots -/
theorem spl_count {P G K : Nat → zp} {s t : Nat} (hP : Mon P s) (hG : Mon G t) (hK : pf K) (e : P = cv K G) (L : List zp) (hL : L.Nodup) (hl : L.length = s) (hr : ∀ x ∈ L, ev P (s + 1) x = 0) : ∃ L1 : List zp, L1.Nodup ∧ L1.length = t ∧ ∀ x ∈ L1, x ∈ L ∧ ev G (t + 1) x = 0 := by
  obtain ⟨hts, hKm⟩ := cofactor hP hG hK e
  have key : ∀ x, ev P (s + 1) x = ev K (s - t + 1) x * ev G (t + 1) x := fun x => by
    have h1 := ev_mul hG.2 x hKm.2
    rw [← e, show s - t + 1 + (t + 1) = (s + 1) + 1 by omega, ev_le hP.2 (Nat.le_succ _)] at h1
    exact h1
  refine ⟨L.filter (fun x => decide (ev G (t + 1) x = 0)), hL.filter _, ?_, fun x hx => ?_⟩
  · have n1 := rbound hG (L.filter (fun x => decide (ev G (t + 1) x = 0))) (hL.filter _) (fun x hx => of_decide_eq_true (List.mem_filter.mp hx).2)
    have n2 := rbound hKm (L.filter (fun x => !decide (ev G (t + 1) x = 0))) (hL.filter _) (fun x hx => by
      obtain ⟨m1, m2⟩ := List.mem_filter.mp hx
      have z := hr x m1
      rw [key x] at z
      exact (zno z).resolve_right (fun y => by rw [y] at m2; simp at m2))
    have n3 := len_filter (fun x => decide (ev G (t + 1) x = 0)) L
    omega
  · obtain ⟨m1, m2⟩ := List.mem_filter.mp hx
    exact ⟨m1, of_decide_eq_true m2⟩
/-- g, of degree t, has t roots -/
def Spl (g : Nat → zp) (t : Nat) : Prop := Mon g t ∧ t < 7 ∧ ∃ L : List zp, L.Nodup ∧ L.length = t ∧ ∀ x ∈ L, ev g 7 x = 0
theorem Mon.ev7 {g : Nat → zp} {t : Nat} (h : Mon g t) (ht : t < 7) (x : zp) : ev g 7 x = ev g (t + 1) x := ev_le h.2 (by omega)
theorem Spl.all {g : Nat → zp} {t : Nat} (h : Spl g t) : ∃ L : List zp, L.Nodup ∧ L.length = t ∧ ∀ x, ev g 7 x = 0 ↔ x ∈ L := by
  obtain ⟨hm, ht, L, h1, h2, h3⟩ := h
  refine ⟨L, h1, h2, fun x => ⟨fun hx => ?_, h3 x⟩⟩
  by_cases c : x ∈ L
  · exact c
  · have := rbound hm (x :: L) (List.nodup_cons.mpr ⟨c, h1⟩) (fun y hy => by
      rw [← hm.ev7 ht]
      rcases List.mem_cons.mp hy with rfl | hy
      · exact hx
      · exact h3 y hy)
    simp only [List.length_cons] at this
    omega
theorem Dv.ev0 {G a : Nat → zp} {t : Nat} (hG : Mon G t) (ht : t < 7) (ha : pz 7 a) (h : Dv G a) {x : zp} (hx : ev G 7 x = 0) : ev a 7 x = 0 := by
  obtain ⟨K, ⟨n, hn⟩, e⟩ := h
  have h1 := ev_mul (pz_le hG.2 (by omega) : pz 7 G) x hn
  rw [← e, ev_le ha (by omega), hx] at h1
  rw [h1]; grind
theorem Spl.dv {p G : Nat → zp} {s t : Nat} (h : Spl p s) (hG : Mon G t) (ht : t < 7) (hd : Dv G p) : Spl G t ∧ t ≤ s := by
  obtain ⟨hm, hs, L, h1, h2, h3⟩ := h
  obtain ⟨K, hK, e⟩ := hd
  obtain ⟨L1, a1, a2, a3⟩ := spl_count hm hG hK e L h1 h2 (fun x hx => by rw [← hm.ev7 hs]; exact h3 x hx)
  exact ⟨⟨hG, ht, L1, a1, a2, fun x hx => by rw [hG.ev7 ht]; exact (a3 x hx).2⟩, (cofactor hm hG hK e).1⟩
/-- all numbers -/
def allz : Nat → List zp
  | 0 => []
  | n + 1 => zo n :: allz n
theorem allz_mem : ∀ {n : Nat} {x : zp}, n ≤ 32003 → x ∈ allz n → x.val < n
  | 0, _, _, h => by cases h
  | n + 1, x, hn, h => by
    rcases List.mem_cons.mp h with rfl | h
    · rw [show (zo n).val = n from Nat.mod_eq_of_lt (by omega)]; omega
    · have := allz_mem (n := n) (by omega) h; omega
theorem allz_nd : ∀ {n : Nat}, n ≤ 32003 → (allz n).Nodup
  | 0, _ => List.nodup_nil
  | n + 1, hn => List.nodup_cons.mpr ⟨fun z => by
      have := allz_mem (n := n) (by omega) z
      rw [show (zo n).val = n from Nat.mod_eq_of_lt (by omega)] at this
      omega, allz_nd (by omega)⟩
theorem allz_len : ∀ n : Nat, (allz n).length = n
  | 0 => rfl
  | n + 1 => congrArg (· + 1) (allz_len n)
theorem lp_Mon (c : zp) : ∀ e, Mon (lp c e) e
  | 0 => ⟨rfl, mono_z 1 0⟩
  | e + 1 => by
    have h := lp_Mon c e
    have h1 := cv_top (n := 1) (m := e) (lin_z c) h.2
    have h2 := pz_cv (n := 1) (m := e) (lin_z c) h.2
    rw [show 1 + e = e + 1 by omega] at h1 h2
    refine ⟨?_, h2⟩
    show cv (lin c) (lp c e) (e + 1) = 1
    rw [h1, h.1, show lin c 1 = 1 by show mono c 0 1 + mono 1 1 1 = 1; rw [show mono c 0 1 = 0 from rfl, show mono (1 : zp) 1 1 = 1 from rfl]; grind]
    rfl
theorem lp_ev (c x : zp) : ∀ e, ev (lp c e) (e + 1) x = zpow (c + x) e
  | 0 => by
    show (0 : zp) + mono 1 0 0 * 1 = 1
    rw [show mono (1 : zp) 0 0 = 1 from rfl]; grind
  | e + 1 => by
    have h := ev_mul (lp_Mon c e).2 x (lin_z c)
    have h2 := (lp_Mon c (e + 1)).2
    show ev (cv (lin c) (lp c e)) (e + 1 + 1) x = zpow (c + x) e * (c + x)
    have h3 : ev (cv (lin c) (lp c e)) (2 + (e + 1)) x = ev (cv (lin c) (lp c e)) (e + 1 + 1) x := ev_le h2 (by omega)
    rw [← h3, h, ev_lin, lp_ev c x e]; grind
theorem zpow_p (x : zp) : zpow x 32003 = x := by
  show zpow x 32002 * x = x
  by_cases h : x = 0
  · rw [h, Fin.mul_zero]
  · rw [fermat h]; grind
/-- where m vanishes, a power modulo m has the power's value -/
theorem rl_ev {c : zp} {e : Nat} {m : Nat → zp} {t : Nat} (hm : Mon m t) (h1 : 1 ≤ t) (h6 : t ≤ 6) (he : e < 2 ^ 15) {x : zp} (hx : ev m 7 x = 0) : ev (rlS c e m 15 rl1) 7 x = zpow (c + x) e := by
  obtain ⟨r1, Q, ⟨n, hn⟩, r2⟩ := rl_cong (c := c) hm h1 h6 he
  have h2 : ev (lp c e) (e + 1 + (n + 7)) x = ev (cv Q m) (e + 1 + (n + 7)) x + ev (rlS c e m 15 rl1) (e + 1 + (n + 7)) x := by
    rw [← ev_add, ← r2]
  have hz : pz (n + 7) (cv Q m) := fun j hj => zs_zero (fun i hi => by
    by_cases c : n ≤ i
    · rw [hn i c]; grind
    · rw [hm.2 (j - i) (by omega)]; grind)
  rw [ev_le (lp_Mon c e).2 (by omega), lp_ev, ev_le hz (by omega), ev_le (pz_le r1 (by omega) : pz 7 _) (by omega), ev_mul (pz_le hm.2 (by omega) : pz 7 m) x hn, hx] at h2
  rw [h2]; grind
theorem psub1_eq (w : Nat → zp) (k : Nat) : psub1 w k = fun j => w j - mono 1 k j := by
  funext j
  unfold psub1 mono
  by_cases e : j = k
  · subst e; rw [va_us, if_pos rfl]; grind
  · rw [va_un e, if_neg e]; grind
theorem pz_psub1 {w : Nat → zp} {k : Nat} (h : pz 7 w) (hk : k < 7) : pz 7 (psub1 w k) := pz_up h hk
/-- the simple roots: a polynomial that splits, with the same roots -/
theorem ksR_spec {r : Nat → zp} {s : Nat} (hr : Mon r s) (hs : s < 7) : ∃ t, Spl (ksR r) t ∧ ∀ x, ev (ksR r) 7 x = 0 ↔ ev r 7 x = 0 := by
  unfold ksR
  rw [hr.deg hs]
  by_cases c : s + 1 ≤ 1
  · rw [if_pos c]
    exact ⟨s, ⟨hr, hs, [], List.nodup_nil, by show 0 = s; omega, fun x hx => by cases hx⟩, fun x => Iff.rfl⟩
  · rw [if_neg c]
    obtain ⟨r1, r2⟩ := rl_cong (c := 0) hr (by omega) (by omega) (show 32003 < 2 ^ 15 by decide)
    have hev := fun x hx => rl_ev (c := 0) (e := 32003) hr (by omega) (by omega) (by decide) (x := x) hx
    generalize rlS 0 32003 r 15 rl1 = W at r1 r2 hev
    have hW7 : pz 7 W := pz_le r1 (by omega)
    have hV7 := pz_psub1 (k := 1) hW7 (by decide)
    have hd7 := pdeg_le (psub1 W 1) 7
    obtain ⟨t, ht, g1, g2, g3, g4⟩ := gcR_spec (k := 8) hr hs hV7 (by omega)
    generalize gcR 8 r (psub1 W 1) = G at g1 g2 g3 g4
    have hiff : ∀ x, ev G 7 x = 0 ↔ ev r 7 x = 0 := fun x => ⟨fun hx => Dv.ev0 g1 ht (pz_le hr.2 (by omega)) g2 hx, fun hx => g4 x hx (by
      rw [psub1_eq, ev_sub, hev x hx, ev_mono 1 1 7 x (by decide)]
      have e0 : (0 : zp) + x = x := by grind
      rw [e0, zpow_p]
      show x - 1 * (1 * x) = 0
      grind)⟩
    refine ⟨t, ⟨g1, ht, ?_⟩, hiff⟩
    obtain ⟨Q, hQ, e1⟩ := r2
    have hT : Mon (fun j => lp 0 32003 j - mono 1 1 j) 32003 := by
      refine ⟨?_, fun j hj => ?_⟩
      · show lp 0 32003 32003 - mono 1 1 32003 = 1
        rw [(lp_Mon 0 32003).1, show mono (1 : zp) 1 32003 = 0 from if_neg (by decide)]; grind
      · show lp 0 32003 j - mono 1 1 j = 0
        rw [(lp_Mon 0 32003).2 j hj, show mono (1 : zp) 1 j = 0 from if_neg (by omega)]; grind
    have hD : Dv G (fun j => lp 0 32003 j - mono 1 1 j) := by
      have : (fun j => lp 0 32003 j - mono 1 1 j) = fun j => cv Q r j + psub1 W 1 j := by
        funext j
        rw [e1, psub1_eq]
        grind
      rw [this]
      exact (Dv.mul hQ g2).add g3
    obtain ⟨K, hK, e2⟩ := hD
    obtain ⟨L1, a1, a2, a3⟩ := spl_count hT g1 hK e2 (allz 32003) (allz_nd (Nat.le_refl _)) (allz_len _) (fun x _ => by
      rw [ev_sub, lp_ev, ev_mono 1 1 _ x (by decide)]
      have e0 : (0 : zp) + x = x := by grind
      rw [e0, zpow_p]
      show x - 1 * (1 * x) = 0
      grind)
    exact ⟨L1, a1, a2, fun x hx => by rw [g1.ev7 ht]; exact (a3 x hx).2⟩
