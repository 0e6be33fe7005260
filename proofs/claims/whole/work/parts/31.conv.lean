/-! Polynomials as rows of numbers: products, values, degrees -/
theorem zs_shift (f : Nat → zp) : ∀ n : Nat, zs (n + 1) f = f 0 + zs n (fun i => f (i + 1))
  | 0 => by show (0 : zp) + f 0 = f 0 + 0; grind
  | n + 1 => by
    show zs (n + 1) f + f (n + 1) = f 0 + (zs n (fun i => f (i + 1)) + f (n + 1))
    rw [zs_shift f n]; grind
theorem zs_split (f : Nat → zp) (n : Nat) : ∀ m : Nat, zs (n + m) f = zs n f + zs m (fun i => f (n + i))
  | 0 => by show zs n f = zs n f + 0; grind
  | m + 1 => by
    show zs (n + m) f + f (n + m) = zs n f + (zs m (fun i => f (n + i)) + f (n + m))
    rw [zs_split f n m]; grind
theorem zs_rev (f : Nat → zp) : ∀ n : Nat, zs (n + 1) f = zs (n + 1) (fun i => f (n - i))
  | 0 => rfl
  | n + 1 => by
    rw [zs_shift (fun i => f (n + 1 - i))]
    show zs (n + 1) f + f (n + 1) = f (n + 1) + zs (n + 1) (fun i => f (n + 1 - (i + 1)))
    rw [zs_rev f n, zs_congr (g := fun i => f (n - i)) (f := fun i => f (n + 1 - (i + 1))) (fun i _ => by rw [show n + 1 - (i + 1) = n - i by omega])]
    grind
/-- the product -/
def cv (a b : Nat → zp) : Nat → zp := fun n => zs (n + 1) (fun i => a i * b (n - i))
theorem cv_comm (a b : Nat → zp) : cv a b = cv b a := by
  funext n
  show zs (n + 1) _ = zs (n + 1) _
  rw [zs_rev]
  refine zs_congr (fun i hi => ?_)
  show a (n - i) * b (n - (n - i)) = b i * a (n - i)
  rw [show n - (n - i) = i by omega]; grind
theorem zs_tri (F : Nat → Nat → zp) : ∀ n : Nat, zs (n + 1) (fun i => zs (i + 1) (fun j => F j (i - j))) = zs (n + 1) (fun j => zs (n - j + 1) (fun k => F j k))
  | 0 => rfl
  | n + 1 => by
    show zs (n + 1) (fun i => zs (i + 1) (fun j => F j (i - j))) + zs (n + 1 + 1) (fun j => F j (n + 1 - j)) = zs (n + 1) (fun j => zs (n + 1 - j + 1) (fun k => F j k)) + zs (n + 1 - (n + 1) + 1) (fun k => F (n + 1) k)
    rw [zs_tri F n]
    have e1 : zs (n + 1) (fun j => zs (n + 1 - j + 1) (fun k => F j k)) = zs (n + 1) (fun j => zs (n - j + 1) (fun k => F j k)) + zs (n + 1) (fun j => F j (n + 1 - j)) := by
      rw [← zs_add]
      refine zs_congr (fun j hj => ?_)
      rw [show n + 1 - j + 1 = (n - j + 1) + 1 by omega]
      show zs (n - j + 1) _ + F j (n - j + 1) = _
      rw [show n - j + 1 = n + 1 - j by omega]
    rw [e1]
    have e2 : zs (n + 1 + 1) (fun j => F j (n + 1 - j)) = zs (n + 1) (fun j => F j (n + 1 - j)) + F (n + 1) 0 := by
      show zs (n + 1) _ + F (n + 1) (n + 1 - (n + 1)) = _
      rw [Nat.sub_self]
    have e3 : zs (n + 1 - (n + 1) + 1) (fun k => F (n + 1) k) = F (n + 1) 0 := by
      rw [Nat.sub_self]
      show (0 : zp) + _ = _
      grind
    rw [e2, e3]; grind
theorem cv_assoc (a b c : Nat → zp) : cv (cv a b) c = cv a (cv b c) := by
  funext n
  show zs (n + 1) (fun i => zs (i + 1) (fun j => a j * b (i - j)) * c (n - i)) = zs (n + 1) (fun j => a j * zs (n - j + 1) (fun k => b k * c (n - j - k)))
  have h := zs_tri (fun j k => a j * b k * c (n - j - k)) n
  have e1 : zs (n + 1) (fun i => zs (i + 1) (fun j => a j * b (i - j)) * c (n - i)) = zs (n + 1) (fun i => zs (i + 1) (fun j => a j * b (i - j) * c (n - j - (i - j)))) := by
    refine zs_congr (fun i hi => ?_)
    show zs (i + 1) (fun j => a j * b (i - j)) * c (n - i) = _
    rw [Fin.mul_comm, ← zs_mul]
    refine zs_congr (fun j hj => ?_)
    rw [show n - j - (i - j) = n - i by omega]; grind
  rw [e1, h]
  refine zs_congr (fun j hj => ?_)
  rw [← zs_mul]
  exact zs_congr (fun k _ => by grind)
theorem cv_add (a b c : Nat → zp) : cv (fun j => a j + b j) c = fun j => cv a c j + cv b c j := by
  funext n
  show zs (n + 1) _ = zs (n + 1) _ + zs (n + 1) _
  rw [← zs_add]
  exact zs_congr (fun i _ => by grind)
theorem cv_sub (a b c : Nat → zp) : cv (fun j => a j - b j) c = fun j => cv a c j - cv b c j := by
  funext n
  show zs (n + 1) _ = zs (n + 1) _ - zs (n + 1) _
  rw [← zs_sub]
  exact zs_congr (fun i _ => by grind)
theorem cv_smul (s : zp) (a c : Nat → zp) : cv (fun j => s * a j) c = fun j => s * cv a c j := by
  funext n
  show zs (n + 1) _ = s * zs (n + 1) _
  rw [← zs_mul]
  exact zs_congr (fun i _ => by grind)
/-- c times the letter to the e -/
def mono (c : zp) (e : Nat) : Nat → zp := fun j => if j = e then c else 0
theorem cv_mono (c : zp) (e : Nat) (w : Nat → zp) : cv (mono c e) w = fun j => if e ≤ j then c * w (j - e) else 0 := by
  funext n
  show zs (n + 1) (fun i => mono c e i * w (n - i)) = _
  by_cases h : e ≤ n
  · rw [if_pos h, zs_one (k := e) (by omega) (fun i _ hn => by unfold mono; rw [if_neg hn]; grind)]
    unfold mono; rw [if_pos rfl]
  · rw [if_neg h]
    exact zs_zero (fun i hi => by unfold mono; rw [if_neg (by omega)]; grind)
theorem cv_one (w : Nat → zp) : cv (mono 1 0) w = w := by
  rw [cv_mono]; funext j
  show (if 0 ≤ j then 1 * w (j - 0) else 0) = w j
  rw [if_pos (Nat.zero_le j), Nat.sub_zero]; grind
theorem mono_z (c : zp) (e : Nat) : pz (e + 1) (mono c e) := fun j hj => if_neg (by omega)
theorem pz_le {n m : Nat} {v : Nat → zp} (h : pz n v) (hm : n ≤ m) : pz m v := fun j hj => h j (by omega)
theorem pz_cv {n m : Nat} {a b : Nat → zp} (ha : pz (n + 1) a) (hb : pz (m + 1) b) : pz (n + m + 1) (cv a b) := fun j hj => zs_zero (fun i hi => by
  by_cases c : n + 1 ≤ i
  · rw [ha i c]; grind
  · rw [hb (j - i) (by omega)]; grind)
theorem cv_top {n m : Nat} {a b : Nat → zp} (ha : pz (n + 1) a) (hb : pz (m + 1) b) : cv a b (n + m) = a n * b m := by
  show zs (n + m + 1) (fun i => a i * b (n + m - i)) = _
  rw [zs_one (k := n) (by omega) (fun i hi hn => ?_), show n + m - n = m by omega]
  by_cases c : n + 1 ≤ i
  · rw [ha i c]; grind
  · rw [hb (n + m - i) (by omega)]; grind
/-- the value of the first n numbers -/
def ev (a : Nat → zp) (n : Nat) (x : zp) : zp := zs n (fun i => a i * zpow x i)
theorem ev_le {a : Nat → zp} {n m : Nat} {x : zp} (h : pz n a) (hm : n ≤ m) : ev a m x = ev a n x := by
  unfold ev
  rw [show m = n + (m - n) by omega, zs_split, zs_zero (n := m - n) (fun i hi => by rw [h (n + i) (by omega)]; grind)]
  grind
theorem ev_add (a b : Nat → zp) (n : Nat) (x : zp) : ev (fun j => a j + b j) n x = ev a n x + ev b n x := by
  unfold ev
  rw [← zs_add]
  exact zs_congr (fun i _ => by grind)
theorem ev_sub (a b : Nat → zp) (n : Nat) (x : zp) : ev (fun j => a j - b j) n x = ev a n x - ev b n x := by
  unfold ev
  rw [← zs_sub]
  exact zs_congr (fun i _ => by grind)
theorem ev_smul (s : zp) (a : Nat → zp) (n : Nat) (x : zp) : ev (fun j => s * a j) n x = s * ev a n x := by
  unfold ev
  rw [← zs_mul]
  exact zs_congr (fun i _ => by grind)
theorem ev_mono (c : zp) (e n : Nat) (x : zp) (h : e < n) : ev (mono c e) n x = c * zpow x e := by
  unfold ev
  rw [zs_one (k := e) h (fun i _ hn => by unfold mono; rw [if_neg hn]; grind)]
  unfold mono; rw [if_pos rfl]
theorem ev_cv_mono (c : zp) (e m : Nat) (b : Nat → zp) (x : zp) : ev (cv (mono c e) b) (e + m) x = c * zpow x e * ev b m x := by
  unfold ev
  rw [cv_mono, zs_split, zs_zero (n := e) (fun i hi => by show (if e ≤ i then _ else _) * _ = _; rw [if_neg (by omega)]; grind), ← zs_mul]
  show (0 : zp) + zs m (fun i => (if e ≤ e + i then c * b (e + i - e) else 0) * zpow x (e + i)) = _
  have : (0 : zp) + zs m (fun i => (if e ≤ e + i then c * b (e + i - e) else 0) * zpow x (e + i)) = zs m (fun i => (if e ≤ e + i then c * b (e + i - e) else 0) * zpow x (e + i)) := by grind
  rw [this]
  refine zs_congr (fun i _ => ?_)
  rw [if_pos (by omega), show e + i - e = i by omega, zpow_add]
  grind
theorem ev_mul {m : Nat} {b : Nat → zp} (hb : pz m b) (x : zp) : ∀ {n : Nat} {a : Nat → zp}, pz n a → ev (cv a b) (n + m) x = ev a n x * ev b m x
  | 0, a, ha => by
    have e : cv a b = fun _ => 0 := by
      funext j
      exact zs_zero (fun i _ => by rw [ha i (by omega)]; grind)
    rw [e]
    show zs (0 + m) (fun i => (0 : zp) * zpow x i) = 0 * _
    rw [zs_zero (fun i _ => by grind)]; grind
  | n + 1, a, ha => by
    have e : a = fun j => (fun j => if j < n then a j else 0) j + mono (a n) n j := by
      funext j
      show a j = (if j < n then a j else 0) + (if j = n then a n else 0)
      by_cases c1 : j < n
      · rw [if_pos c1, if_neg (by omega)]; grind
      · by_cases c2 : j = n
        · subst c2; rw [if_neg c1, if_pos rfl]; grind
        · rw [if_neg c1, if_neg c2, ha j (by omega)]; grind
    have h1 : pz n (fun j => if j < n then a j else 0) := fun j hj => if_neg (by omega)
    generalize hA : (fun j => if j < n then a j else 0) = a1 at e h1
    have hev : ev a (n + 1) x = ev a1 n x + a n * zpow x n := by
      rw [e, ev_add, ev_le h1 (Nat.le_succ n), ev_mono _ _ _ _ (Nat.lt_succ_self n)]
      show _ = _ + (a1 n + mono (a n) n n) * _
      rw [show mono (a n) n n = a n from if_pos rfl, h1 n (Nat.le_refl n)]; grind
    have hcv : ev (cv a b) (n + 1 + m) x = ev (cv a1 b) (n + 1 + m) x + ev (cv (mono (a n) n) b) (n + 1 + m) x := by
      rw [← ev_add, ← cv_add, ← e]
    have hz1 : pz (n + m) (cv a1 b) := fun j hj => zs_zero (fun i hi => by
      by_cases c : n ≤ i
      · rw [h1 i c]; grind
      · rw [hb (j - i) (by omega)]; grind)
    have hz2 : pz (n + m) (cv (mono (a n) n) b) := fun j hj => by
      rw [cv_mono]
      show (if n ≤ j then _ else _) = _
      rw [if_pos (by omega), hb (j - n) (by omega)]; grind
    rw [hcv, hev, ev_le hz1 (by omega), ev_mul hb x h1, ev_le hz2 (by omega), ev_cv_mono]
    grind
theorem phor_ev (v : Nat → zp) (x : zp) : ∀ (k : Nat) (acc : zp), phor v x k acc = acc * zpow x k + ev v k x
  | 0, acc => by show acc = acc * 1 + 0; grind
  | k + 1, acc => by
    show phor v x k (acc * x + v k) = acc * (zpow x k * x) + (zs k _ + v k * zpow x k)
    rw [phor_ev v x k]
    show _ + ev v k x = _ + (ev v k x + _)
    grind
theorem phor_0 (v : Nat → zp) (x : zp) (k : Nat) : phor v x k 0 = ev v k x := by rw [phor_ev]; grind
