/-! Polynomials: division, powers modulo a polynomial, the common divisor -/
def pf (a : Nat → zp) : Prop := ∃ n, pz n a
def Mon (g : Nat → zp) (s : Nat) : Prop := g s = 1 ∧ pz (s + 1) g
theorem zs_cut {f : Nat → zp} {n m : Nat} (h : ∀ i, n ≤ i → i < m → f i = 0) (hm : n ≤ m) : zs m f = zs n f := by
  rw [show m = n + (m - n) by omega, zs_split, zs_zero (n := m - n) (fun i hi => h (n + i) (by omega) (by omega))]
  grind
theorem pdeg_hi {v : Nat → zp} : ∀ {n j : Nat}, pdeg v n ≤ j → j < n → v j = 0
  | 0, j, _, h => absurd h (by omega)
  | n + 1, j, h1, h2 => by
    unfold pdeg at h1
    by_cases c : v n = 0
    · rw [if_pos c] at h1
      by_cases e : j = n
      · subst e; exact c
      · exact pdeg_hi h1 (by omega)
    · rw [if_neg c] at h1; omega
theorem pdeg_lead {v : Nat → zp} : ∀ {n t : Nat}, pdeg v n = t + 1 → v t ≠ 0
  | 0, t, h => by cases h
  | n + 1, t, h => by
    unfold pdeg at h
    by_cases c : v n = 0
    · rw [if_pos c] at h; exact pdeg_lead h
    · rw [if_neg c] at h
      have : n = t := by omega
      subst this; exact c
theorem pz_deg {v : Nat → zp} {n : Nat} (h : pz n v) : pz (pdeg v n) v := fun j hj => by
  by_cases c : j < n
  · exact pdeg_hi hj c
  · exact h j (by omega)
theorem pdeg_of {v : Nat → zp} {t : Nat} (ht : v t ≠ 0) (hz : pz (t + 1) v) : ∀ {n : Nat}, t < n → pdeg v n = t + 1
  | 0, h => absurd h (by omega)
  | n + 1, h => by
    unfold pdeg
    by_cases e : n = t
    · subst e; rw [if_neg ht]
    · rw [if_pos (hz n (by omega))]; exact pdeg_of ht hz (by omega)
theorem Mon.deg {g : Nat → zp} {s n : Nat} (h : Mon g s) (hs : s < n) : pdeg g n = s + 1 := pdeg_of (by rw [h.1]; decide) h.2 hs
theorem pmon_eq {v : Nat → zp} {n t : Nat} (hz : pz n v) (h : pdeg v n = t + 1) : pmon v n = fun j => zinv (v t) * v j := by
  funext j
  unfold pmon
  rw [h]
  show (if j < t + 1 then v j * zinv (v t) else v j) = _
  by_cases c : j < t + 1
  · rw [if_pos c]; grind
  · have : v j = 0 := pz_deg hz j (by omega)
    rw [if_neg c, this]; grind
theorem pmon_Mon {v : Nat → zp} {n t : Nat} (hz : pz n v) (h : pdeg v n = t + 1) : Mon (pmon v n) t := by
  rw [pmon_eq hz h]
  refine ⟨?_, fun j hj => ?_⟩
  · show zinv (v t) * v t = 1
    rw [Fin.mul_comm]; exact zinv_mul (pdeg_lead h)
  · have : v j = 0 := pz_deg hz j (by omega)
    show zinv (v t) * v j = 0
    rw [this]; grind
/-- a is b and a multiple of m -/
def Cong (m a b : Nat → zp) : Prop := ∃ Q, pf Q ∧ a = fun j => cv Q m j + b j
theorem Cong.rf (m a : Nat → zp) : Cong m a a := ⟨fun _ => 0, ⟨0, fun _ _ => rfl⟩, by
  funext j
  show a j = zs (j + 1) (fun i => 0 * m (j - i)) + a j
  rw [zs_zero (fun i _ => by grind)]; grind⟩
theorem pf.add {a b : Nat → zp} (ha : pf a) (hb : pf b) : pf (fun j => a j + b j) := by
  obtain ⟨n, hn⟩ := ha
  obtain ⟨m, hm⟩ := hb
  exact ⟨n + m, fun j hj => by show a j + b j = 0; rw [hn j (by omega), hm j (by omega)]; grind⟩
theorem pf.cv {a b : Nat → zp} (ha : pf a) (hb : pf b) : pf (cv a b) := by
  obtain ⟨n, hn⟩ := ha
  obtain ⟨m, hm⟩ := hb
  exact ⟨n + m + 1, pz_cv (pz_le hn (Nat.le_succ n)) (pz_le hm (Nat.le_succ m))⟩
theorem pf.smul {a : Nat → zp} (s : zp) (ha : pf a) : pf (fun j => s * a j) := by
  obtain ⟨n, hn⟩ := ha
  exact ⟨n, fun j hj => by show s * a j = 0; rw [hn j hj]; grind⟩
theorem pf_mono (c : zp) (e : Nat) : pf (mono c e) := ⟨e + 1, mono_z c e⟩
theorem Cong.trans {m a b c : Nat → zp} (h1 : Cong m a b) (h2 : Cong m b c) : Cong m a c := by
  obtain ⟨Q, hQ, e1⟩ := h1
  obtain ⟨T, hT, e2⟩ := h2
  refine ⟨fun j => Q j + T j, hQ.add hT, ?_⟩
  rw [cv_add, e1]
  funext j
  show _ + b j = _ + _ + c j
  rw [e2]
  grind
theorem Cong.mul {m a b : Nat → zp} (h : Cong m a b) {c : Nat → zp} (hc : pf c) : Cong m (cv a c) (cv b c) := by
  obtain ⟨Q, hQ, e⟩ := h
  refine ⟨cv Q c, hQ.cv hc, ?_⟩
  rw [e, cv_add, cv_assoc, cv_comm m c, ← cv_assoc]
theorem Cong.sq {m a b : Nat → zp} (h : Cong m a b) (ha : pf a) (hb : pf b) : Cong m (cv a a) (cv b b) := by
  have h1 := h.mul ha
  have h2 := h.mul hb
  rw [cv_comm a b] at h2
  exact h1.trans h2
theorem pstep_cv {v w : Nat → zp} {k p : Nat} (hk : k ≤ p + 1) (hw : pz k w) : v = fun j => cv (mono (v p) (p + 1 - k)) w j + pstep v w k p j := by
  funext j
  rw [cv_mono]
  unfold pstep
  show v j = (if p + 1 - k ≤ j then v p * w (j - (p + 1 - k)) else 0) + _
  by_cases c : p + 1 - k ≤ j
  · rw [if_pos c]
    by_cases c2 : j ≤ p
    · rw [if_pos ⟨by omega, c2⟩, show j + k - (p + 1) = j - (p + 1 - k) by omega]; grind
    · rw [if_neg (by omega), hw _ (by omega)]; grind
  · rw [if_neg c, if_neg (by omega)]; grind
theorem prd_cong {w : Nat → zp} {t : Nat} (hw : Mon w t) : ∀ {q : Nat} {v : Nat → zp}, pz q v → pz t (prd w (t + 1) q v) ∧ Cong w v (prd w (t + 1) q v)
  | 0, v, h => ⟨fun j _ => h j (by omega), Cong.rf w v⟩
  | p + 1, v, h => by
    unfold prd
    by_cases c : p + 1 < t + 1
    · rw [if_pos c]; exact ⟨fun j hj => h j (by omega), Cong.rf w v⟩
    · rw [if_neg c]
      have hz : pz p (pstep v w (t + 1) p) := fun j hj => by
        unfold pstep
        by_cases e : j = p
        · subst e
          rw [if_pos (by omega), show j + (t + 1) - (j + 1) = t by omega, hw.1]; grind
        · rw [if_neg (by omega)]; exact h j (by omega)
      obtain ⟨h1, h2⟩ := prd_cong hw hz
      exact ⟨h1, Cong.trans ⟨_, pf_mono _ _, pstep_cv (by omega) hw.2⟩ h2⟩
theorem pred_cong {w v : Nat → zp} {t n : Nat} (hw : Mon w t) (ht : t < 7) (hv : pz n v) : pz t (pred v n w 7) ∧ Cong w v (pred v n w 7) := by
  unfold pred
  rw [hw.deg ht, if_neg (by omega)]
  exact prd_cong hw hv
/-- the letter plus c -/
def lin (c : zp) : Nat → zp := fun j => mono c 0 j + mono 1 1 j
theorem lin_z (c : zp) : pz 2 (lin c) := fun j hj => by
  show mono c 0 j + mono 1 1 j = 0
  rw [show mono c 0 j = 0 from if_neg (by omega), show mono 1 1 j = 0 from if_neg (by omega)]; grind
theorem cv_lin (c : zp) (v : Nat → zp) : cv (lin c) v = fun j => c * v j + (if 1 ≤ j then v (j - 1) else 0) := by
  unfold lin
  rw [cv_add, cv_mono, cv_mono]
  funext j
  show (if 0 ≤ j then c * v (j - 0) else 0) + (if 1 ≤ j then 1 * v (j - 1) else 0) = _
  rw [if_pos (Nat.zero_le j), Nat.sub_zero]
  split <;> grind
theorem pmul_cv {v : Nat → zp} {c : zp} (h : pz 6 v) : pmul v 7 c = cv (lin c) v := by
  rw [cv_lin]
  funext j
  unfold pmul
  by_cases c1 : j < 7
  · rw [if_pos c1]
    by_cases c2 : j = 0
    · subst c2; rw [if_pos rfl, if_neg (by omega)]; grind
    · rw [if_neg c2, if_pos (by omega)]; grind
  · rw [if_neg c1, h j (by omega), if_pos (by omega), h (j - 1) (by omega)]; grind
theorem psq_cv {w : Nat → zp} (h : pz 7 w) : psq w = cv w w := by
  have hz := pz_deg h
  have hl := pdeg_le w 7
  funext n
  unfold psq psqI
  generalize pdeg w 7 = t at hz hl
  by_cases c : n < 13
  · rw [if_pos c]
    show zs t (fun a => zs t (fun b => if a + b = n then w a * w b else 0)) + 0 = zs (n + 1) (fun i => w i * w (n - i))
    have e1 : ∀ a, zs t (fun b => if a + b = n then w a * w b else 0) = if a ≤ n then w a * w (n - a) else 0 := fun a => by
      by_cases ca : a ≤ n
      · rw [if_pos ca]
        by_cases cb : n - a < t
        · rw [zs_one (k := n - a) cb (fun b _ hn => if_neg (by omega)), if_pos (by omega)]
        · rw [zs_zero (fun b hb => if_neg (by omega)), hz (n - a) (by omega)]; grind
      · rw [if_neg ca]
        exact zs_zero (fun b _ => if_neg (by omega))
    rw [zs_congr (g := fun a => if a ≤ n then w a * w (n - a) else 0) (fun a _ => e1 a)]
    have e2 : zs (t + (n + 1)) (fun a => if a ≤ n then w a * w (n - a) else 0) = zs t (fun a => if a ≤ n then w a * w (n - a) else 0) := zs_cut (fun i h1 _ => by rw [hz i h1]; split <;> grind) (by omega)
    have e3 : zs (t + (n + 1)) (fun a => if a ≤ n then w a * w (n - a) else 0) = zs (n + 1) (fun a => if a ≤ n then w a * w (n - a) else 0) := zs_cut (fun i h1 _ => if_neg (by omega)) (by omega)
    rw [← e2, e3, zs_congr (g := fun i => w i * w (n - i)) (fun i hi => if_pos (by omega))]
    grind
  · rw [if_neg c]
    exact (pz_cv (n := 6) (m := 6) h h n (by omega)).symm
/-- the powers of the letter plus c -/
def lp (c : zp) : Nat → (Nat → zp)
  | 0 => mono 1 0
  | e + 1 => cv (lin c) (lp c e)
theorem lp_pf (c : zp) : ∀ e, pf (lp c e)
  | 0 => pf_mono 1 0
  | e + 1 => pf.cv ⟨2, lin_z c⟩ (lp_pf c e)
theorem lp_add (c : zp) (a : Nat) : ∀ b, cv (lp c a) (lp c b) = lp c (a + b)
  | 0 => by
    show cv (lp c a) (mono 1 0) = lp c a
    rw [cv_comm, cv_one]
  | b + 1 => by
    show cv (lp c a) (cv (lin c) (lp c b)) = cv (lin c) (lp c (a + b))
    rw [← lp_add c a b, ← cv_assoc, cv_comm (lp c a), cv_assoc]
theorem rlS_cong {c : zp} {e : Nat} {m : Nat → zp} {t : Nat} (hm : Mon m t) (h1 : 1 ≤ t) (h6 : t ≤ 6) : ∀ {k : Nat} {w : Nat → zp}, pz t w → Cong m (lp c (e / 2 ^ k)) w → pz t (rlS c e m k w) ∧ Cong m (lp c e) (rlS c e m k w)
  | 0, w, hw, hc => by rw [Nat.pow_zero, Nat.div_one] at hc; exact ⟨hw, hc⟩
  | k + 1, w, hw, hc => by
    have hw7 : pz 7 w := pz_le hw (by omega)
    obtain ⟨s1, s2⟩ := pred_cong (n := 13) hm (by omega) (psqI_z w _ _ _ : pz 13 (psq w))
    have hq : rqW w m = pred (psq w) 13 m 7 := pcut_self (pz_le s1 (by omega))
    have hz : pz t (rqW w m) := by rw [hq]; exact s1
    have hsq : Cong m (lp c (2 * (e / 2 ^ (k + 1)))) (rqW w m) := by
      rw [hq, Nat.two_mul, ← lp_add]
      refine (hc.sq (lp_pf c _) ⟨t, hw⟩).trans ?_
      rw [← psq_cv hw7]
      exact s2
    have hd : e / 2 ^ (k + 1) = e / 2 ^ k / 2 := by rw [Nat.pow_succ, Nat.div_div_eq_div_mul]
    unfold rlS
    by_cases cb : e / 2 ^ k % 2 = 1
    · rw [if_pos cb]
      obtain ⟨r1, r2⟩ := pred_cong (n := 7) (v := pmul (rqW w m) 7 c) hm (by omega) (pz_mul (pz_le hz (by omega)))
      refine rlS_cong hm h1 h6 r1 ?_
      have e1 : e / 2 ^ k = 2 * (e / 2 ^ (k + 1)) + 1 := by omega
      rw [e1]
      show Cong m (cv (lin c) (lp c (2 * (e / 2 ^ (k + 1))))) _
      rw [cv_comm]
      refine (hsq.mul ⟨2, lin_z c⟩).trans ?_
      rw [cv_comm, ← pmul_cv (pz_le hz (by omega))]
      exact r2
    · rw [if_neg cb]
      refine rlS_cong hm h1 h6 hz ?_
      rw [show e / 2 ^ k = 2 * (e / 2 ^ (k + 1)) by omega]
      exact hsq
theorem rl1_eq : rl1 = mono 1 0 := rfl
theorem rl_cong {c : zp} {e : Nat} {m : Nat → zp} {t : Nat} (hm : Mon m t) (h1 : 1 ≤ t) (h6 : t ≤ 6) (he : e < 2 ^ 15) : pz t (rlS c e m 15 rl1) ∧ Cong m (lp c e) (rlS c e m 15 rl1) := by
  refine rlS_cong hm h1 h6 (pz_le (mono_z 1 0) (by omega)) ?_
  rw [Nat.div_eq_of_lt he]
  exact Cong.rf m _
/-- g divides a -/
def Dv (g a : Nat → zp) : Prop := ∃ k, pf k ∧ a = cv k g
theorem Dv.rf (g : Nat → zp) : Dv g g := ⟨mono 1 0, pf_mono 1 0, (cv_one g).symm⟩
theorem Dv.add {g a b : Nat → zp} (ha : Dv g a) (hb : Dv g b) : Dv g (fun j => a j + b j) := by
  obtain ⟨k, h1, rfl⟩ := ha
  obtain ⟨n, h2, rfl⟩ := hb
  exact ⟨fun j => k j + n j, h1.add h2, (cv_add k n g).symm⟩
theorem Dv.mul {g a c : Nat → zp} (hc : pf c) (ha : Dv g a) : Dv g (cv c a) := by
  obtain ⟨k, h1, rfl⟩ := ha
  exact ⟨cv c k, hc.cv h1, (cv_assoc c k g).symm⟩
theorem Dv.smul {g a : Nat → zp} (s : zp) (ha : Dv g a) : Dv g (fun j => s * a j) := by
  obtain ⟨k, h1, rfl⟩ := ha
  exact ⟨fun j => s * k j, h1.smul s, (cv_smul s k g).symm⟩
theorem Dv.zero (g : Nat → zp) : Dv g (fun _ => 0) := ⟨fun _ => 0, ⟨0, fun _ _ => rfl⟩, by
  funext j
  exact (zs_zero (fun i _ => by grind)).symm⟩
/-- the common divisor: monic, divides both, vanishes where both do -/
theorem gcR_spec : ∀ {k : Nat} {u v : Nat → zp} {s : Nat}, Mon u s → s < 7 → pz 7 v → pdeg v 7 < k → ∃ t, t < 7 ∧ Mon (gcR k u v) t ∧ Dv (gcR k u v) u ∧ Dv (gcR k u v) v ∧ ∀ x, ev u 7 x = 0 → ev v 7 x = 0 → ev (gcR k u v) 7 x = 0
  | 0, _, _, _, _, _, _, h => absurd h (by omega)
  | k + 1, u, v, s, hu, hs, hv, hk => by
    unfold gcR
    by_cases c : pdeg v 7 = 0
    · rw [if_pos c]
      have e : v = fun _ => 0 := by
        funext j
        exact pz_deg hv j (by omega)
      exact ⟨s, hs, hu, Dv.rf u, by rw [e]; exact Dv.zero u, fun x h _ => h⟩
    · rw [if_neg c]
      obtain ⟨t, ht⟩ : ∃ t, pdeg v 7 = t + 1 := ⟨pdeg v 7 - 1, by omega⟩
      have hle := pdeg_le v 7
      have hM := pmon_Mon hv ht
      have hme := pmon_eq hv ht
      have hlead := pdeg_lead ht
      have hu7 : pz 7 u := pz_le hu.2 (by omega)
      obtain ⟨r1, Q, hQ, r2⟩ := pred_cong (n := 7) (v := u) hM (by omega) hu7
      have hr7 : pz 7 (pred u 7 (pmon v 7) 7) := pz_le r1 (by omega)
      generalize hR : pred u 7 (pmon v 7) 7 = R at r1 r2 hr7
      have hdr : pdeg R 7 < k := by
        have : pdeg R 7 ≤ t := by
          by_cases z : pdeg R 7 ≤ t
          · exact z
          · obtain ⟨q, hq⟩ : ∃ q, pdeg R 7 = q + 1 := ⟨pdeg R 7 - 1, by omega⟩
            exact absurd (r1 q (by omega)) (pdeg_lead hq)
        omega
      obtain ⟨a, ha, g1, g2, g3, g4⟩ := gcR_spec (k := k) hM (by omega) hr7 hdr
      generalize gcR k (pmon v 7) R = G at g1 g2 g3 g4
      refine ⟨a, ha, g1, ?_, ?_, fun x h1 h2 => ?_⟩
      · rw [r2]; exact (Dv.mul hQ g2).add g3
      · have e : v = fun j => v t * pmon v 7 j := by
          rw [hme]; funext j
          show v j = v t * (zinv (v t) * v j)
          have := zinv_mul hlead
          have e2 : v t * (zinv (v t) * v j) = v t * zinv (v t) * v j := by grind
          rw [e2, this]; grind
        rw [e]; exact g2.smul _
      · have e1 : ev (pmon v 7) 7 x = 0 := by rw [hme, ev_smul, h2]; grind
        refine g4 x e1 ?_
        obtain ⟨n, hn⟩ := hQ
        have e2 : ev u (n + 7) x = ev (cv Q (pmon v 7)) (n + 7) x + ev R (n + 7) x := by
          rw [← ev_add, ← r2]
        rw [ev_mul (pz_le hM.2 (by omega) : pz 7 (pmon v 7)) x hn, ev_le hu7 (by omega), ev_le hr7 (by omega), h1, e1] at e2
        grind
