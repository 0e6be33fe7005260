/-! The law's relation between the two sides, and what each call keeps of it -/
def RLa (E : ga_E) (Z A : Nat → Nat) (c md : Nat → va_E) : Prop := ∃ (o : Nat) (F : Nat → Nat → zp) (S tr : Nat → zp) (zk kn mt : Bool) (bc n0 : Nat) (rv pa ba : Nat → zp) (bs : Nat → Nat) (bv : Nat → Nat → zp) (sn kv : Nat) (y : Nat → zp) (zn : Nat) (zf : Nat → zp) (cn : Nat) (cf : Nat → zp) (s : Nat → Int32) (fa si sr pu va ro pm bm ma ti ta im sh un : Nat → zp) (pv : Nat → Option Nat),
  coI E Z c o F S tr zk kn mt bc n0 rv pa ba bs bv sn kv y zn zf cn cf ∧ md = mdC E A s fa si sr pu va ro pm bm ma ti ta im sh pv un ∧ St o F S tr zk kn mt bc n0 rv pa ba bs bv sn kv y zn zf s fa si sr pu ro pm bm ma ti
def AM (E : ga_E) (Z A : Nat → Nat) (c' : Nat → va_E) (q : Nat) (w' : Nat → Int64) (k : Nat) (cv : Int32 → Int64) (r0 : Option Value) (h1 : ga_H) : Prop := ∃ (r : Int32) (s : Nat → Int32) (fa si sr pu va ro pm bm ma ti ta im sh un : Nat → zp) (pv : Nat → Option Nat), r0 = some (.int r) ∧ h1 = mdH E (ga_up (ga_ov e0 Z c' 65) q (ga_j E 1 w')) A s fa si sr pu va ro pm bm ma ti ta im sh pv un ∧ s 0 = nI k ∧ (k = 0 → w' 0 = cv r) ∧ RLa E Z A c' (mdC E A s fa si sr pu va ro pm bm ma ti ta im sh pv un)
theorem hp_cw {Z A : Nat → Nat} {c md : Nat → va_E} {q : Nat} {x y : va_E} (hD : Dj Z A q) : ga_up (ga_ov (ga_up (ga_ov e0 A md 16) q x) Z c 65) q y = HP Z c A md q y := by rw [← hp_c hD, hp_w]
theorem hp_cq {Z A : Nat → Nat} {c md : Nat → va_E} {q : Nat} {x : va_E} (hD : Dj Z A q) : ga_ov (ga_up (ga_ov e0 A md 16) q x) Z c 65 q = some x := by rw [← hp_c hD, hp_q]
theorem St.opened {o : Nat} {F : Nat → Nat → zp} {S tr : Nat → zp} {zk kn mt : Bool} {bc n0 : Nat} {rv pa ba : Nat → zp} {bs : Nat → Nat} {bv : Nat → Nat → zp} {sn kv : Nat} {y : Nat → zp} {zn : Nat} {zf : Nat → zp} {s : Nat → Int32} {fa si sr pu ro pm bm ma ti : Nat → zp} (h : St o F S tr zk kn mt bc n0 rv pa ba bs bv sn kv y zn zf s fa si sr pu ro pm bm ma ti) : ∃ (nm : Nat) (mm : Bool) (pw : Nat), (s 9 = nI nm ∧ nm ≤ 13) ∧ s 11 = bI mm ∧ (s 13 = nI pw ∧ pw ≤ 6 ∧ ∀ a, a < pw → (ma a).val ≤ 13) ∧ (kn = true → n0 = nm ∧ mt = mm ∧ bc = pw ∧ (∀ k, k < n0 → ∀ j, j < 13 → rv (13 * k + j) = ro (13 * k + j)) ∧ (mt = true → ∀ j, j < 13 → pa j = pm j) ∧ ∀ a, a < bc → ba a = bm a ∧ bs a = (ma a).val ∧ ∀ i, i < bs a → ∀ j, j < 13 → bv a (13 * i + j) = ti (169 * a + 13 * i + j)) := by
  obtain ⟨h1, -, h3, -, -, -, -, -, -, h10, nm, mm, pw, a, b, c, d⟩ := h
  exact ⟨nm, mm, pw, a, b, c, fun hk => K_same h1 h3 (h10 hk) (d hk)⟩
theorem ltR_ix {x : Int32} {b : Nat} (h : ltR x b = true) : ix x < b ∧ ¬ x < 0 := by
  unfold ltR at h
  rw [Bool.and_eq_true] at h
  refine ⟨of_decide_eq_true h.2, fun z => ?_⟩
  have := h.1
  rw [decide_eq_true z] at this
  cases this
theorem cdA_0 {kn : Bool} {n : Nat} {mt : Bool} {k p : Int32} (h : cdA kn n mt k p = 0) : kn = true ∧ ltR p 13 = true ∧ (k = -1 ∧ mt = true ∨ ltR k n = true) := by
  unfold cdA at h
  by_cases c : kn = true
  · rw [if_pos c] at h
    by_cases c2 : ltR p 13 = true ∧ (k = -1 ∧ mt = true ∨ ltR k n = true)
    · exact ⟨c, c2⟩
    · rw [if_neg c2] at h; cases h
  · rw [if_neg c] at h; cases h
theorem cdT_0 {kn : Bool} {pw : Nat} {ma : Nat → zp} {k i p : Int32} (h : cdT kn pw ma k i p = 0) : kn = true ∧ ltR k pw = true ∧ ltR i (ma (ix k)).val = true ∧ ltR p 13 = true := by
  unfold cdT at h
  by_cases c : kn = true
  · rw [if_pos c] at h
    by_cases c2 : ltR k pw = true ∧ ltR i (ma (ix k)).val = true ∧ ltR p 13 = true
    · exact ⟨c, c2⟩
    · rw [if_neg c2] at h; cases h
  · rw [if_neg c] at h; cases h
theorem cdF_0 {o : Nat} {sh p : Int32} {zb : zp} (h : cdF o sh p zb = 0) : ltR sh (o + 1) = true ∧ ltR p 7 = true := by
  unfold cdF at h
  by_cases c : ltR sh (o + 1) = true
  · rw [if_pos c] at h
    by_cases c2 : ltR p 7 = true
    · exact ⟨c, c2⟩
    · rw [if_neg c2] at h; cases h
  · rw [if_neg c] at h; cases h
theorem cdP_0 {b : Nat} {p : Int32} (h : cdP b p = 0) : ltR p b = true := by
  unfold cdP at h
  by_cases c : ltR p b = true
  · exact c
  · rw [if_neg c] at h; cases h
theorem cdR_0 {p : Int32} {zb : zp} (h : cdR p zb = 0) : ltR p 11 = true := by
  unfold cdR at h
  by_cases c : ltR p 11 = true
  · exact c
  · rw [if_neg c] at h; cases h
theorem cdK_0 {kn : Bool} (h : cdK kn = 0) : kn = true := by
  cases kn with
  | false => cases h
  | true => rfl
theorem cd_lt {o n pw : Nat} {kn mt : Bool} {ma : Nat → zp} {a b c : Int32} {z : zp} : cdF o a b z < 4 ∧ cdR a z < 4 ∧ cdK kn < 4 ∧ cdA kn n mt a b < 4 ∧ cdT kn pw ma a b c < 4 ∧ cdP n a < 4 := by
  unfold cdF cdR cdK cdA cdT cdP
  refine ⟨?_, ?_, ?_, ?_, ?_, ?_⟩ <;> (repeat' split) <;> omega
