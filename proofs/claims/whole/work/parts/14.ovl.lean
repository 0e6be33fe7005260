/-! Blocks of cells: handles, their addresses A, their pictures c, laid over a heap -/
def ga_ov (h : ga_H) (A : Nat → Nat) (c : Nat → va_E) : Nat → ga_H
  | 0 => h
  | n + 1 => ga_up (ga_ov h A c n) (A n) (c n)
def ga_inj (A : Nat → Nat) (n : Nat) : Prop := ∀ i j : Nat, i < n → j < n → A i = A j → i = j
theorem ga_inj.ne {A : Nat → Nat} {n i j : Nat} (h : ga_inj A n) (hi : i < n) (hj : j < n) (e : i ≠ j) : A i ≠ A j := fun z => e (h i j hi hj z)
theorem ga_inj.le {A : Nat → Nat} {n m : Nat} (h : ga_inj A n) (hm : m ≤ n) : ga_inj A m := fun i j hi hj => h i j (by omega) (by omega)
theorem ga_ov_out {h : ga_H} {A : Nat → Nat} {c : Nat → va_E} {q : Nat} : ∀ {n : Nat}, (∀ k, k < n → q ≠ A k) → ga_ov h A c n q = h q
  | 0, _ => rfl
  | n + 1, hq => (ga_up_ne (hq n (Nat.lt_succ_self n))).trans (ga_ov_out (fun k hk => hq k (Nat.lt_succ_of_lt hk)))
theorem ga_ov_at {h : ga_H} {A : Nat → Nat} {c : Nat → va_E} {k : Nat} : ∀ {n : Nat}, ga_inj A n → k < n → ga_ov h A c n (A k) = some (c k)
  | 0, _, hk => absurd hk (by omega)
  | n + 1, hA, hk => by
    by_cases e : k = n
    · subst e; exact ga_up_eq
    · exact (ga_up_ne (hA.ne hk (Nat.lt_succ_self n) e)).trans (ga_ov_at (hA.le (Nat.le_succ n)) (by omega))
theorem ga_ov_congr {h : ga_H} {A : Nat → Nat} {c c' : Nat → va_E} : ∀ {n : Nat}, (∀ k, k < n → c k = c' k) → ga_ov h A c n = ga_ov h A c' n
  | 0, _ => rfl
  | n + 1, hc => by
    show ga_up (ga_ov h A c n) (A n) (c n) = ga_up (ga_ov h A c' n) (A n) (c' n)
    rw [ga_ov_congr (fun k hk => hc k (Nat.lt_succ_of_lt hk)), hc n (Nat.lt_succ_self n)]
theorem ga_ov_up {h : ga_H} {A : Nat → Nat} {c : Nat → va_E} {k : Nat} {x : va_E} : ∀ {n : Nat}, ga_inj A n → k < n → ga_up (ga_ov h A c n) (A k) x = ga_ov h A (va_up c k x) n
  | 0, _, hk => absurd hk (by omega)
  | n + 1, hA, hk => by
    by_cases e : k = n
    · subst e
      show ga_up (ga_up (ga_ov h A c k) (A k) (c k)) (A k) x = ga_up (ga_ov h A (va_up c k x) k) (A k) (va_up c k x k)
      rw [ga_up_up, show va_up c k x k = x from if_pos rfl, ga_ov_congr (c := c) (c' := va_up c k x) (fun j hj => (if_neg (by omega) : va_up c k x j = c j).symm)]
    · show ga_up (ga_up (ga_ov h A c n) (A n) (c n)) (A k) x = ga_up (ga_ov h A (va_up c k x) n) (A n) (va_up c k x n)
      rw [ga_up_comm _ _ _ (hA.ne (Nat.lt_succ_self n) hk (fun z => e z.symm)), ga_ov_up (hA.le (Nat.le_succ n)) (by omega), show va_up c k x n = c n from if_neg (fun z => e z.symm)]
theorem ga_ov_self {h : ga_H} {A : Nat → Nat} {c : Nat → va_E} : ∀ {n : Nat}, (∀ k, k < n → h (A k) = some (c k)) → ga_ov h A c n = h
  | 0, _ => rfl
  | n + 1, hc => by
    show ga_up (ga_ov h A c n) (A n) (c n) = h
    rw [ga_ov_self (fun k hk => hc k (Nat.lt_succ_of_lt hk)), ga_up_self (hc n (Nat.lt_succ_self n))]
/-- a block laid over a block that holds its handles -/
theorem ga_ov_sub {h : ga_H} {A B : Nat → Nat} {c d : Nat → va_E} {n : Nat} (hA : ga_inj A n) (ix : Nat → Nat) : ∀ {m : Nat}, (∀ k, k < m → ix k < n ∧ B k = A (ix k)) → ∃ c' : Nat → va_E, ga_ov (ga_ov h A c n) B d m = ga_ov h A c' n ∧ (∀ j, (∀ k, k < m → ix k ≠ j) → c' j = c j) ∧ ((∀ i j, i < m → j < m → ix i = ix j → i = j) → ∀ k, k < m → c' (ix k) = d k)
  | 0, _ => ⟨c, rfl, fun _ _ => rfl, fun _ k hk => absurd hk (by omega)⟩
  | m + 1, hB => by
    obtain ⟨c1, e1, e2, e3⟩ := ga_ov_sub (h := h) (c := c) (d := d) hA ix (m := m) (fun k hk => hB k (Nat.lt_succ_of_lt hk))
    obtain ⟨b1, b2⟩ := hB m (Nat.lt_succ_self m)
    refine ⟨va_up c1 (ix m) (d m), ?_, fun j hj => ?_, fun hi k hk => ?_⟩
    · show ga_up (ga_ov (ga_ov h A c n) B d m) (B m) (d m) = _
      rw [e1, b2, ga_ov_up hA b1]
    · rw [show va_up c1 (ix m) (d m) j = c1 j from if_neg (fun z => hj m (Nat.lt_succ_self m) z.symm)]
      exact e2 j (fun k hk => hj k (Nat.lt_succ_of_lt hk))
    · by_cases e : k = m
      · subst e; exact if_pos rfl
      · rw [show va_up c1 (ix m) (d m) (ix k) = c1 (ix k) from if_neg (fun z => e (hi k m hk (Nat.lt_succ_self m) z))]
        exact e3 (fun i j h1 h2 => hi i j (by omega) (by omega)) k (by omega)
/-- the cells of Roots: the object, found, remaining, part, piece, power, square -/
def roC (E : ga_E) (A : Nat → Nat) (n : Nat) (f r p i w s : Nat → zp) : Nat → va_E
  | 0 => ga_o 5 [.ref (A 1), .ref (A 2), .ref (A 3), .ref (A 4), .ref (A 5), .ref (A 6), .int (nI n)]
  | 1 => ga_f E 6 f
  | 2 => ga_f E 7 r
  | 3 => ga_f E 7 p
  | 4 => ga_f E 7 i
  | 5 => ga_f E 7 w
  | _ => ga_f E 13 s
def roH (E : ga_E) (h : ga_H) (A : Nat → Nat) (n : Nat) (f r p i w s : Nat → zp) : ga_H := ga_ov h A (roC E A n f r p i w s) 7
section RO
variable {E : ga_E} {h : ga_H} {A : Nat → Nat} {n : Nat} {f r p i w s : Nat → zp} (hA : ga_inj A 7)
theorem ro_0 (hA : ga_inj A 7) : roH E h A n f r p i w s (A 0) = some (ga_o 5 [.ref (A 1), .ref (A 2), .ref (A 3), .ref (A 4), .ref (A 5), .ref (A 6), .int (nI n)]) := ga_ov_at hA (by decide)
theorem ro_1 (hA : ga_inj A 7) : roH E h A n f r p i w s (A 1) = some (ga_f E 6 f) := ga_ov_at hA (by decide)
theorem ro_2 (hA : ga_inj A 7) : roH E h A n f r p i w s (A 2) = some (ga_f E 7 r) := ga_ov_at hA (by decide)
theorem ro_3 (hA : ga_inj A 7) : roH E h A n f r p i w s (A 3) = some (ga_f E 7 p) := ga_ov_at hA (by decide)
theorem ro_4 (hA : ga_inj A 7) : roH E h A n f r p i w s (A 4) = some (ga_f E 7 i) := ga_ov_at hA (by decide)
theorem ro_5 (hA : ga_inj A 7) : roH E h A n f r p i w s (A 5) = some (ga_f E 7 w) := ga_ov_at hA (by decide)
theorem ro_6 (hA : ga_inj A 7) : roH E h A n f r p i w s (A 6) = some (ga_f E 13 s) := ga_ov_at hA (by decide)
theorem ro_w {k : Nat} {x : va_E} {n' : Nat} {f' r' p' i' w' s' : Nat → zp} (hA : ga_inj A 7) (hk : k < 7) (e : ∀ j, j < 7 → va_up (roC E A n f r p i w s) k x j = roC E A n' f' r' p' i' w' s' j) : ga_up (roH E h A n f r p i w s) (A k) x = roH E h A n' f' r' p' i' w' s' := by
  unfold roH
  rw [ga_ov_up hA hk]
  exact ga_ov_congr e
theorem ro_w0 (hA : ga_inj A 7) (m : Nat) : ga_up (roH E h A n f r p i w s) (A 0) (ga_o 5 [.ref (A 1), .ref (A 2), .ref (A 3), .ref (A 4), .ref (A 5), .ref (A 6), .int (nI m)]) = roH E h A m f r p i w s := ro_w hA (by decide) (fun j hj => by rcases j with _ | _ | _ | _ | _ | _ | _ | j <;> first | rfl | omega)
theorem ro_w1 (hA : ga_inj A 7) (v : Nat → zp) : ga_up (roH E h A n f r p i w s) (A 1) (ga_f E 6 v) = roH E h A n v r p i w s := ro_w hA (by decide) (fun j hj => by rcases j with _ | _ | _ | _ | _ | _ | _ | j <;> first | rfl | omega)
theorem ro_w2 (hA : ga_inj A 7) (v : Nat → zp) : ga_up (roH E h A n f r p i w s) (A 2) (ga_f E 7 v) = roH E h A n f v p i w s := ro_w hA (by decide) (fun j hj => by rcases j with _ | _ | _ | _ | _ | _ | _ | j <;> first | rfl | omega)
theorem ro_w3 (hA : ga_inj A 7) (v : Nat → zp) : ga_up (roH E h A n f r p i w s) (A 3) (ga_f E 7 v) = roH E h A n f r v i w s := ro_w hA (by decide) (fun j hj => by rcases j with _ | _ | _ | _ | _ | _ | _ | j <;> first | rfl | omega)
theorem ro_w4 (hA : ga_inj A 7) (v : Nat → zp) : ga_up (roH E h A n f r p i w s) (A 4) (ga_f E 7 v) = roH E h A n f r p v w s := ro_w hA (by decide) (fun j hj => by rcases j with _ | _ | _ | _ | _ | _ | _ | j <;> first | rfl | omega)
theorem ro_w5 (hA : ga_inj A 7) (v : Nat → zp) : ga_up (roH E h A n f r p i w s) (A 5) (ga_f E 7 v) = roH E h A n f r p i v s := ro_w hA (by decide) (fun j hj => by rcases j with _ | _ | _ | _ | _ | _ | _ | j <;> first | rfl | omega)
theorem ro_w6 (hA : ga_inj A 7) (v : Nat → zp) : ga_up (roH E h A n f r p i w s) (A 6) (ga_f E 13 v) = roH E h A n f r p i w v := ro_w hA (by decide) (fun j hj => by rcases j with _ | _ | _ | _ | _ | _ | _ | j <;> first | rfl | omega)
end RO
