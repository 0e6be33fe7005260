/-! What links the component's mathematics with the reference's -/
theorem zs_swap (f : Nat → Nat → zp) (m : Nat) : ∀ n : Nat, zs n (fun i => zs m (fun j => f i j)) = zs m (fun j => zs n (fun i => f i j))
  | 0 => (zs_zero (fun _ _ => rfl)).symm
  | n + 1 => by
    show zs n (fun i => zs m (fun j => f i j)) + zs m (fun j => f n j) = zs m (fun j => zs n (fun i => f i j) + f n j)
    rw [zs_swap f m n, zs_add]
theorem lp_s (c : zp) (e i : Nat) : lp c (e + 1) i = c * lp c e i + (if 1 ≤ i then lp c e (i - 1) else 0) := by
  show cv (lin c) (lp c e) i = _
  rw [cv_lin]
theorem lp_hi (c : zp) {e i : Nat} (h : e < i) : lp c e i = 0 := (lp_Mon c e).2 i h
theorem shS_s (q : Nat → zp) (c : zp) (m : Nat) {i : Nat} (hi : i < 13) : shS q c (m + 1) i = c * shS q c m i + (if 1 ≤ i then shS q c m (i - 1) else 0) + (if i = 0 then q (12 - m) else 0) := by
  show va_up (pmI (shS q c m) 13 c 0) 0 (c * shS q c m 0 + q (12 - m)) i = _
  by_cases e : i = 0
  · subst e
    rw [va_us, if_neg (by omega), if_pos rfl]; grind
  · rw [va_un e, if_pos (by omega), if_neg e]
    unfold pmI
    rw [if_pos (by omega)]; grind
theorem shS_lp (q : Nat → zp) (c : zp) : ∀ (m : Nat), m ≤ 13 → ∀ i, i < 13 → shS q c m i = zs m (fun k => q (13 - m + k) * lp c k i)
  | 0, _, i, _ => rfl
  | m + 1, hm, i, hi => by
    rw [shS_s q c m hi, zs_shift, shS_lp q c m (by omega) i hi, show 13 - (m + 1) + 0 = 12 - m by omega]
    have e : zs m (fun k => q (13 - (m + 1) + (k + 1)) * lp c (k + 1) i) = c * zs m (fun k => q (13 - m + k) * lp c k i) + (if 1 ≤ i then shS q c m (i - 1) else 0) := by
      rw [← zs_mul]
      by_cases h1 : 1 ≤ i
      · rw [if_pos h1, shS_lp q c m (by omega) (i - 1) (by omega), ← zs_add]
        refine zs_congr (fun k hk => ?_)
        rw [lp_s, if_pos h1, show 13 - (m + 1) + (k + 1) = 13 - m + k by omega]; grind
      · rw [if_neg h1]
        have : ∀ x : zp, x + 0 = x := fun x => by grind
        rw [this]
        refine zs_congr (fun k hk => ?_)
        rw [lp_s, if_neg h1, show 13 - (m + 1) + (k + 1) = 13 - m + k by omega]; grind
    rw [e]
    have e0 : lp c 0 i = if i = 0 then 1 else 0 := rfl
    rw [e0]
    by_cases h0 : i = 0
    · rw [if_pos h0, if_pos h0]; grind
    · rw [if_neg h0, if_neg h0]; grind
theorem shS_13 (q : Nat → zp) (c : zp) {i : Nat} (hi : i < 13) : shS q c 13 i = zs 13 (fun k => q k * lp c k i) := by
  rw [shS_lp q c 13 (Nat.le_refl _) i hi]
  exact zs_congr (fun k _ => by rw [show 13 - 13 + k = k by omega])
theorem shS_mono (c : zp) {j i : Nat} (hj : j < 13) (hi : i < 13) : shS (mono 1 j) c 13 i = lp c j i := by
  rw [shS_13 _ _ hi, zs_one hj (fun k _ hk => by unfold mono; rw [if_neg hk]; grind)]
  unfold mono; rw [if_pos rfl]; grind
theorem tmc_cv (F : Nat → zp) (sc sh : zp) : ∀ (j i : Nat), i < 19 → tmc F sc sh j i = cv (lp sh j) (fun a => if a < 7 then F a * sc else 0) i
  | 0, i, _ => by rw [show lp sh 0 = mono 1 0 from rfl, cv_one]; rfl
  | j + 1, i, hi => by
    show pmul (tmc F sc sh j) 19 sh i = cv (cv (lin sh) (lp sh j)) _ i
    rw [cv_assoc, cv_lin]
    unfold pmul
    rw [if_pos hi]
    by_cases e : i = 0
    · subst e
      rw [if_pos rfl, tmc_cv F sc sh j 0 (by omega)]
      show _ = _ + (if 1 ≤ 0 then _ else _)
      rw [if_neg (by omega)]; grind
    · rw [if_neg e, tmc_cv F sc sh j i hi, tmc_cv F sc sh j (i - 1) (by omega)]
      show _ = _ + (if 1 ≤ i then _ else _)
      rw [if_pos (by omega)]; grind
theorem tmc_ap (F : Nat → zp) (z : zp) (fa : Nat → zp) (k : Nat) (hF : ∀ a, a < 7 → F a = fa (7 * k + a)) {j i : Nat} (hj : j < 13) (hi : i < 19) : tmc F (zpow z k) (zo k) j i = zs 7 (fun a => apT (mono 1 j) z fa k a 13 i) := by
  rw [tmc_cv F _ _ j i hi, cv_comm]
  have e1 : ∀ a, (if a ≤ i then (if a < 7 then F a * zpow z k else 0) * lp (zo k) j (i - a) else 0) = if a < 7 then apT (mono 1 j) z fa k a 13 i else 0 := fun a => by
    by_cases h1 : a ≤ i
    · rw [if_pos h1]
      by_cases h2 : a < 7
      · rw [if_pos h2, if_pos h2]
        unfold apT
        by_cases h3 : i < a + 13
        · rw [if_pos ⟨h1, h3⟩, shS_mono _ hj (by omega), hF a h2]
        · rw [if_neg (by omega), lp_hi _ (by omega)]; grind
      · rw [if_neg h2, if_neg h2]; grind
    · rw [if_neg h1]
      by_cases h2 : a < 7
      · rw [if_pos h2]; unfold apT; rw [if_neg (by omega)]
      · rw [if_neg h2]
  have e2 : cv (fun a => if a < 7 then F a * zpow z k else 0) (lp (zo k) j) i = zs (i + 1) (fun a => if a < 7 then apT (mono 1 j) z fa k a 13 i else 0) := by
    show zs (i + 1) _ = _
    refine zs_congr (fun a ha => ?_)
    rw [← e1 a, if_pos (by omega)]
  rw [e2]
  have e3 : zs (i + 8) (fun a => if a < 7 then apT (mono 1 j) z fa k a 13 i else 0) = zs (i + 1) (fun a => if a < 7 then apT (mono 1 j) z fa k a 13 i else 0) := zs_cut (fun a ha _ => by
    by_cases h2 : a < 7
    · rw [if_pos h2]; unfold apT; rw [if_neg (by omega)]
    · rw [if_neg h2]) (by omega)
  have e4 : zs (i + 8) (fun a => if a < 7 then apT (mono 1 j) z fa k a 13 i else 0) = zs 7 (fun a => if a < 7 then apT (mono 1 j) z fa k a 13 i else 0) := zs_cut (fun a ha _ => if_neg (by omega)) (by omega)
  rw [← e3, e4]
  exact zs_congr (fun a ha => if_pos ha)
/-- the two sides hold the same equation -/
def Eqn (o : Nat) (fa : Nat → zp) (F : Nat → Nat → zp) : Prop := o ≤ 4 ∧ (∀ i, i ≤ o → ∀ a, a < 7 → F i a = fa (7 * i + a)) ∧ ∀ i, o < i → i < 5 → ∀ a, a < 7 → F i a = 0
theorem pdeg_0 {v : Nat → zp} : ∀ {n : Nat}, pdeg v n = 0 ↔ ∀ a, a < n → v a = 0
  | 0 => ⟨fun _ a ha => absurd ha (by omega), fun _ => rfl⟩
  | n + 1 => by
    show (if v n = 0 then pdeg v n else n + 1) = 0 ↔ _
    by_cases e : v n = 0
    · rw [if_pos e, pdeg_0 (n := n)]
      exact ⟨fun h a ha => by by_cases c : a = n; · rw [c]; exact e
                              · exact h a (by omega), fun h a ha => h a (by omega)⟩
    · rw [if_neg e]
      exact ⟨fun h => absurd h (by omega), fun h => absurd (h n (by omega)) e⟩
theorem Eqn.deg {o : Nat} {fa : Nat → zp} {F : Nat → Nat → zp} (h : Eqn o fa F) {i : Nat} (hi : i ≤ o) : pdeg (F i) 7 = 0 ↔ ∀ a, a < 7 → fa (7 * i + a) = 0 :=
  pdeg_0.trans ⟨fun z a ha => (h.2.1 i hi a ha).symm.trans (z a ha), fun z a ha => (h.2.1 i hi a ha).trans (z a ha)⟩
theorem Eqn.hi {o : Nat} {fa : Nat → zp} {F : Nat → Nat → zp} (h : Eqn o fa F) {i : Nat} (hi : o < i) (h5 : i < 5) : pdeg (F i) 7 = 0 := pdeg_0.mpr (h.2.2 i hi h5)
theorem Eqn.adt {o : Nat} {fa : Nat → zp} {F : Nat → Nat → zp} (h : Eqn o fa F) {z : zp} {k j i : Nat} (hk : k ≤ o) (hj : j < 13) (hi : i < 19) : adT F z k j i = zs 7 (fun a => apT (mono 1 j) z fa k a 13 i) := by
  unfold adT
  by_cases e : pdeg (F k) 7 = 0
  · rw [if_pos e]
    refine (zs_zero (fun a ha => ?_)).symm
    unfold apT
    rw [(h.deg hk).mp e a ha]
    split
    · grind
    · rfl
  · rw [if_neg e]; exact tmc_ap _ z fa k (h.2.1 k hk) hj hi
theorem Eqn.fill {o : Nat} {fa si : Nat → zp} {F : Nat → Nat → zp} {S : Nat → zp} (h : Eqn o fa F) (hS : ∀ i, i < 11 → S i = si i) (z : zp) : ∀ i, i < 19 → ∀ j, j < 14 → fillK F S z 5 i j = rM fa si o z i j := fun i hi j hj => by
  have z0 : ∀ x : zp, 0 + x = x := fun x => by grind
  have z1 : ∀ x : zp, x + 0 = x := fun x => by grind
  unfold fillK bsS rM
  by_cases e : j < 13
  · rw [if_pos e, if_pos e, if_pos e, z0]
    have h4 := h.1
    rw [zs_cut (n := o + 1) (m := 5) (fun k hk h5 => by unfold adT; rw [if_pos (h.hi (by omega) h5)]) (by omega)]
    exact zs_congr (fun k hk => h.adt (by omega) e hi)
  · rw [if_neg e, if_neg e, if_neg e, z1]
    by_cases c : i < 11
    · rw [if_pos c, if_pos c, hS i c]
    · rw [if_neg c, if_neg c]
theorem apE_lin (q : Nat → zp) (z : zp) (fa : Nat → zp) (o n : Nat) : apE q z fa o n = zs 13 (fun k => apE (mono 1 k) z fa o n * q k) := by
  have e1 : ∀ i a, apT q z fa i a 13 n = zs 13 (fun k => apT (mono 1 k) z fa i a 13 n * q k) := fun i a => by
    unfold apT
    by_cases c : a ≤ n ∧ n < a + 13
    · rw [if_pos c, shS_13 _ _ (by omega), ← zs_mul]
      refine zs_congr (fun k hk => ?_)
      rw [if_pos c, shS_mono _ hk (by omega)]; grind
    · rw [if_neg c]
      refine (zs_zero (fun k _ => ?_)).symm
      rw [if_neg c]; grind
  have zr : ∀ (f : Nat → zp) (c : zp) (m : Nat), zs m (fun i => f i * c) = zs m f * c := fun f c m => by
    rw [show zs m f * c = c * zs m f by grind, ← zs_mul]
    exact zs_congr (fun i _ => by grind)
  unfold apE
  have e2 : ∀ i, zs 7 (fun a => apT q z fa i a 13 n) = zs 13 (fun k => zs 7 (fun a => apT (mono 1 k) z fa i a 13 n) * q k) := fun i => by
    rw [zs_congr (fun a _ => e1 i a), zs_swap]
    exact zs_congr (fun k _ => zr _ _ _)
  rw [zs_congr (fun i _ => e2 i), zs_swap]
  exact zs_congr (fun k _ => zr _ _ _)
theorem Eqn.rest {o : Nat} {fa si : Nat → zp} {F : Nat → Nat → zp} {S : Nat → zp} (h : Eqn o fa F) (hS : ∀ i, i < 11 → S i = si i) {C : Nat → Nat → zp} (hC : ∀ i, i < 19 → ∀ j, j < 14 → C i j = fillK F S 1 5 i j) {tr pu : Nat → zp} (hp : ∀ j, j < 13 → tr j = pu j) {i : Nat} (hi : i < 19) : -(C i 13) + zs 13 (fun k => C i k * tr k) = apE pu 1 fa o i - (if i < 11 then si i else 0) := by
  rw [hC i hi 13 (by omega), h.fill hS 1 i hi 13 (by omega), apE_lin]
  have e : zs 13 (fun k => C i k * tr k) = zs 13 (fun k => apE (mono 1 k) 1 fa o i * pu k) := zs_congr (fun k hk => by
    rw [hC i hi k (by omega), h.fill hS 1 i hi k (by omega), hp k hk]
    unfold rM; rw [if_pos hk])
  rw [e]
  unfold rM
  rw [if_neg (by omega)]; grind
theorem not_all {fa : Nat → zp} {i : Nat} : (∃ a, a < 7 ∧ fa (7 * i + a) ≠ 0) ↔ ¬ ∀ a, a < 7 → fa (7 * i + a) = 0 := ⟨fun ⟨a, ha, h⟩ z => h (z a ha), fun h => Classical.byContradiction fun z => h (fun a ha => Classical.byContradiction fun w => z ⟨a, ha, w⟩)⟩
theorem Eqn.great {o : Nat} {fa : Nat → zp} {F : Nat → Nat → zp} (h : Eqn o fa F) {q : Option Nat} (hq : GreatS F q) : GrM fa o q := by
  have h4 := h.1
  rcases hq with ⟨rfl, z⟩ | ⟨i, rfl, h5, hi, hk⟩
  · exact Or.inl ⟨rfl, fun i hi => (h.deg hi).mp (z i (by omega))⟩
  · have hio : i ≤ o := Classical.byContradiction fun c => hi (h.hi (by omega) h5)
    exact Or.inr ⟨i, rfl, hio, not_all.mpr (fun z => hi ((h.deg hio).mpr z)), fun k h1 h2 => (h.deg h2).mp (hk k h1 (by omega))⟩
theorem GrM.uniq {fa : Nat → zp} {o : Nat} {q q' : Option Nat} (h : GrM fa o q) (h' : GrM fa o q') : q = q' := by
  rcases h with ⟨rfl, z⟩ | ⟨i, rfl, hi, ⟨a, ha, hn⟩, hk⟩ <;> rcases h' with ⟨rfl, z'⟩ | ⟨i', rfl, hi', ⟨a', ha', hn'⟩, hk'⟩
  · rfl
  · exact absurd (z i' hi' a' ha') hn'
  · exact absurd (z' i hi a ha) hn
  · rcases Nat.lt_trichotomy i i' with c | c | c
    · exact absurd (hk i' c hi' a' ha') hn'
    · rw [c]
    · exact absurd (hk' i c hi a ha) hn
theorem Eqn.least {o : Nat} {fa : Nat → zp} {F : Nat → Nat → zp} (h : Eqn o fa F) {q : Option Nat} (hq : LeastS F q) : LeM fa o q := by
  have h4 := h.1
  rcases hq with ⟨rfl, z⟩ | ⟨i, rfl, h5, hi, hk⟩
  · exact Or.inl ⟨rfl, fun i hi => (h.deg hi).mp (z i (by omega))⟩
  · have hio : i ≤ o := Classical.byContradiction fun c => hi (h.hi (by omega) h5)
    exact Or.inr ⟨i, rfl, hio, not_all.mpr (fun z => hi ((h.deg hio).mpr z)), fun k h1 => (h.deg (by omega)).mp (hk k h1)⟩
theorem LeM.uniq {fa : Nat → zp} {o : Nat} {q q' : Option Nat} (h : LeM fa o q) (h' : LeM fa o q') : q = q' := by
  rcases h with ⟨rfl, z⟩ | ⟨i, rfl, hi, ⟨a, ha, hn⟩, hk⟩ <;> rcases h' with ⟨rfl, z'⟩ | ⟨i', rfl, hi', ⟨a', ha', hn'⟩, hk'⟩
  · rfl
  · exact absurd (z i' hi' a' ha') hn'
  · exact absurd (z' i hi a ha) hn
  · rcases Nat.lt_trichotomy i i' with c | c | c
    · exact absurd (hk' i c a ha) hn
    · rw [c]
    · exact absurd (hk i' c a' ha') hn'
/-- the highest power of the equation, and the sum whose roots the bases are -/
theorem Eqn.top {o : Nat} {fa : Nat → zp} {F : Nat → Nat → zp} (h : Eqn o fa F) (hd : dmax F 5 ≠ 0) {t : Nat} (ht : HiM fa o t) (y : zp) : ev (tnP F) 7 y = 0 ↔ tpR fa o t y := by
  have h4 := h.1
  have h7 := dmax_le F 5
  obtain ⟨i, hi5, hi⟩ := dmax_at F 5 hd
  have hio : i ≤ o := Classical.byContradiction fun c => hd (hi.symm.trans (h.hi (by omega) hi5))
  have hl : F i (dmax F 5 - 1) ≠ 0 := pdeg_lead (n := 7) (by omega)
  have hup : ∀ i, i ≤ o → ∀ a, dmax F 5 ≤ a → a < 7 → fa (7 * i + a) = 0 := fun i hi a h1 h2 => by
    rw [← h.2.1 i hi a h2]
    exact pdeg_hi (n := 7) (Nat.le_trans (dmax_ge F 5 i (by omega)) h1) h2
  have et : t = dmax F 5 - 1 := by
    rcases Nat.lt_trichotomy t (dmax F 5 - 1) with c | c | c
    · exact absurd ((h.2.1 i hio _ (by omega)).trans (ht.2.2 (dmax F 5 - 1) c (by omega) i hio)) hl
    · exact c
    · rcases ht.2.1 with z | ⟨k, hk, hn⟩
      · omega
      · exact absurd (hup k hk t (by omega) ht.1) hn
  unfold tpR
  rw [phor_0]
  have e : ev (tnP F) 7 y = ev (fun i => fa (7 * i + t)) (o + 1) y := by
    unfold ev
    rw [zs_cut (n := o + 1) (m := 7) (fun k hk h7 => ?_) (by omega)]
    · refine zs_congr (fun k hk => ?_)
      unfold tnP
      rw [if_pos ⟨by omega, hd⟩, ← et, h.2.1 k (by omega) t ht.1]
    · have : tnP F k = 0 := by
        by_cases c : k ≤ 4
        · unfold tnP; rw [if_pos ⟨c, hd⟩]; exact h.2.2 k (by omega) (by omega) _ (by omega)
        · exact tnP_hi F (by omega)
      rw [this]; grind
  rw [e]
theorem Eqn.val {o : Nat} {fa : Nat → zp} {F : Nat → Nat → zp} (h : Eqn o fa F) {g : Nat} (hg : g ≤ o) (x : zp) : phor (F g) x 7 0 = phor (FF fa g) x 7 0 := by
  rw [phor_0, phor_0]
  exact zs_congr (fun a ha => by rw [h.2.1 g hg a ha])
theorem Eqn.dem {o : Nat} {fa si : Nat → zp} {F : Nat → Nat → zp} {S : Nat → zp} (h : Eqn o fa F) (hS : ∀ i, i < 11 → S i = si i) (y : Nat → zp) (p : Nat) : ∀ k, k ≤ o + 1 → demI F S y p k = demI (FF fa) si y p k
  | 0, _ => by
    show phor S (zo p) 11 0 = phor si (zo p) 11 0
    rw [phor_0, phor_0]
    exact zs_congr (fun a ha => by rw [hS a ha])
  | k + 1, hk => by
    show demI F S y p k - _ = demI (FF fa) si y p k - _
    rw [h.dem hS y p k (by omega), h.val (by omega)]
theorem Eqn.vaq {o : Nat} {fa si : Nat → zp} {F : Nat → Nat → zp} {S : Nat → zp} (h : Eqn o fa F) (hS : ∀ i, i < 11 → S i = si i) {g : Nat} (hg : g ≤ o) : ∀ (k kn : Nat) (y : Nat → zp), vaR F S g k kn y = vaR (FF fa) si g k kn y
  | 0, _, _ => rfl
  | k + 1, kn, y => by
    unfold vaR
    rw [h.val hg, h.dem hS y _ g (by omega)]
    by_cases c : phor (FF fa g) (zo (kn - g)) 7 0 = 0
    · rw [if_pos c, if_pos c]
    · rw [if_neg c, if_neg c]; exact h.vaq hS hg k (kn + 1) _
