/-! The two sides' states side by side -/
/-- what is known of the answers, on both sides -/
def KC (F : Nat → Nat → zp) (S : Nat → zp) (mt : Bool) (bc n0 : Nat) (rv pa ba : Nat → zp) (bs : Nat → Nat) (bv : Nat → Nat → zp) : Prop := (∃ g, GreatS F (some g)) ∧ ResP (fillK F S 1 5) n0 rv ∧ ResM (fillK F S 1 5) mt pa ∧ ResB (fun z => fillK F S z 5) (fun y => ev (tnP F) 7 y = 0) bc ba bs bv
def KR (o : Nat) (fa si : Nat → zp) (nm : Nat) (mm : Bool) (pw : Nat) (ro pm bm ma ti : Nat → zp) : Prop := ∃ t, HiM fa o t ∧ ResP (rM fa si o 1) nm ro ∧ ResM (rM fa si o 1) mm pm ∧ ResB (rM fa si o) (tpR fa o t) pw bm (fun k => (ma k).val) (fun k m => ti (169 * k + m))
def St (o : Nat) (F : Nat → Nat → zp) (S tr : Nat → zp) (zk kn mt : Bool) (bc n0 : Nat) (rv pa ba : Nat → zp) (bs : Nat → Nat) (bv : Nat → Nat → zp) (sn kv : Nat) (y : Nat → zp) (zn : Nat) (zf : Nat → zp) (s : Nat → Int32) (fa si sr pu ro pm bm ma ti : Nat → zp) : Prop :=
  Eqn o fa F ∧ s 1 = nI o ∧ (∀ i, i < 11 → S i = si i) ∧ (∀ j, j < 13 → tr j = pu j) ∧ s 5 = nI sn ∧ VOk F S sn kv y sr ∧ s 8 = bI kn ∧ (zk = true → zn ≤ 6 ∧ Inc zn zf ∧ ∀ g, GreatS F (some g) → ∀ y, Has zn zf y ↔ ev (F g) 7 y = 0) ∧ (n0 ≤ 13 ∧ bc ≤ 4 ∧ ∀ a, a < bc → bs a ≤ 13) ∧ (kn = true → KC F S mt bc n0 rv pa ba bs bv) ∧
  ∃ (nm : Nat) (mm : Bool) (pw : Nat), (s 9 = nI nm ∧ nm ≤ 13) ∧ s 11 = bI mm ∧ (s 13 = nI pw ∧ pw ≤ 6 ∧ ∀ a, a < pw → (ma a).val ≤ 13) ∧ (kn = true → KR o fa si nm mm pw ro pm bm ma ti)
theorem ResP.le {M : Nat → Nat → zp} {n : Nat} {v : Nat → zp} (h : ResP M n v) : n ≤ 13 := by
  obtain ⟨C, u, pv, -, rfl, -⟩ := h
  exact cnt_le pv 13
/-- what both know is the same -/
theorem K_same {o : Nat} {F : Nat → Nat → zp} {S fa si : Nat → zp} {mt : Bool} {bc n0 : Nat} {rv pa ba : Nat → zp} {bs : Nat → Nat} {bv : Nat → Nat → zp} {nm : Nat} {mm : Bool} {pw : Nat} {ro pm bm ma ti : Nat → zp} (hE : Eqn o fa F) (hS : ∀ i, i < 11 → S i = si i) (h : KC F S mt bc n0 rv pa ba bs bv) (h' : KR o fa si nm mm pw ro pm bm ma ti) :
    n0 = nm ∧ mt = mm ∧ bc = pw ∧ (∀ k, k < n0 → ∀ j, j < 13 → rv (13 * k + j) = ro (13 * k + j)) ∧ (mt = true → ∀ j, j < 13 → pa j = pm j) ∧ ∀ a, a < bc → ba a = bm a ∧ bs a = (ma a).val ∧ ∀ i, i < bs a → ∀ j, j < 13 → bv a (13 * i + j) = ti (169 * a + 13 * i + j) := by
  obtain ⟨⟨g, hg⟩, hP, hM, hB⟩ := h
  obtain ⟨t, ht, hP', hM', hB'⟩ := h'
  have hd := great_dmax hg
  have hf : ∀ z, ∀ i, i < 19 → ∀ j, j < 14 → rM fa si o z i j = fillK F S z 5 i j := fun z i hi j hj => (hE.fill hS z i hi j hj).symm
  obtain ⟨a1, a2⟩ := hP.uniq (ResP.congr hP' (fun _ _ => rfl) (fun i hi j hj => (hf 1 i hi j hj).symm))
  obtain ⟨b1, b2⟩ := hM.uniq (ResM.congr hM' (fun i hi j hj => (hf 1 i hi j hj).symm))
  obtain ⟨c1, c2⟩ := hB.uniq (ResB.congr hB' (fun z i hi j hj => (hf z i hi j hj).symm) (fun z => hE.top hd ht z))
  refine ⟨a1, b1, c1, fun k hk j hj => ?_, b2, fun a ha => ⟨(c2 a ha).1, (c2 a ha).2.1, fun i hi j hj => ?_⟩⟩
  · rw [Nat.mul_comm 13 k]; exact a2 k hk j hj
  · rw [Nat.mul_comm 13 i, Nat.add_assoc]; exact (c2 a ha).2.2 i hi j hj
theorem Eqn.upd {o : Nat} {fa : Nat → zp} {F : Nat → Nat → zp} (h : Eqn o fa F) {i p : Nat} (hi : i ≤ o) (hp : p < 7) (V : zp) : Eqn o (va_up fa (7 * i + p) V) (va_up F i (va_up (F i) p V)) := by
  refine ⟨h.1, fun k hk a ha => ?_, fun k hk h5 a ha => ?_⟩
  · by_cases e : k = i
    · subst e
      rw [va_us]
      by_cases e2 : a = p
      · subst e2; rw [va_us, va_us]
      · rw [va_un e2, va_un (by omega)]; exact h.2.1 k hk a ha
    · rw [va_un e, va_un (by omega)]; exact h.2.1 k hk a ha
  · rw [va_un (by omega)]; exact h.2.2 k hk h5 a ha
theorem va_same {f : Nat → zp} {k : Nat} {x : zp} (h : f k = x) : va_up f k x = f := by
  funext j
  by_cases e : j = k
  · rw [e, va_us, h]
  · rw [va_un e]
section STS
variable {o : Nat} {F : Nat → Nat → zp} {S tr : Nat → zp} {zk kn mt : Bool} {bc n0 : Nat} {rv pa ba : Nat → zp} {bs : Nat → Nat} {bv : Nat → Nat → zp} {sn kv : Nat} {y : Nat → zp} {zn : Nat} {zf : Nat → zp} {s : Nat → Int32} {fa si sr pu ro pm bm ma ti : Nat → zp}
theorem St.t0 (h : St o F S tr zk kn mt bc n0 rv pa ba bs bv sn kv y zn zf s fa si sr pu ro pm bm ma ti) (x : Int32) : St o F S tr zk kn mt bc n0 rv pa ba bs bv sn kv y zn zf (va_up s 0 x) fa si sr pu ro pm bm ma ti := h
theorem St.factor (h : St o F S tr zk kn mt bc n0 rv pa ba bs bv sn kv y zn zf s fa si sr pu ro pm bm ma ti) {i p : Nat} (hi : i ≤ o) (hp : p < 7) (V : zp) : St o (va_up F i (va_up (F i) p V)) S tr false false mt bc n0 rv pa ba bs bv sn sn y zn zf (va_up (va_up s 0 (nI 0)) 8 (nI 0)) (va_up fa (7 * i + p) V) si sr pu ro pm bm ma ti := by
  obtain ⟨h1, h2, h3, h4, h5, h6, h7, h8, h9, h10, nm, mm, pw, h11, h12, h13, h14⟩ := h
  exact ⟨h1.upd hi hp V, h2, h3, h4, h5, VOk_new h6.1 h6.2.2.2.1, rfl, fun z => (by cases z), h9, fun z => (by cases z), nm, mm, pw, h11, h12, h13, fun z => (by cases z)⟩
theorem St.right (h : St o F S tr zk kn mt bc n0 rv pa ba bs bv sn kv y zn zf s fa si sr pu ro pm bm ma ti) (p : Nat) (V : zp) : St o F (va_up S p V) tr false false mt bc n0 rv pa ba bs bv sn sn y zn zf (va_up (va_up s 0 (nI 0)) 8 (nI 0)) fa (va_up si p V) sr pu ro pm bm ma ti := by
  obtain ⟨h1, h2, h3, h4, h5, h6, h7, h8, h9, h10, nm, mm, pw, h11, h12, h13, h14⟩ := h
  refine ⟨h1, h2, fun i hi => ?_, h4, h5, VOk_new h6.1 h6.2.2.2.1, rfl, fun z => (by cases z), h9, fun z => (by cases z), nm, mm, pw, h11, h12, h13, fun z => (by cases z)⟩
  by_cases e : i = p
  · rw [e, va_us, va_us]
  · rw [va_un e, va_un e]; exact h3 i hi
theorem St.put (h : St o F S tr zk kn mt bc n0 rv pa ba bs bv sn kv y zn zf s fa si sr pu ro pm bm ma ti) (p : Nat) (V : zp) : St o F S (va_up tr p V) zk kn mt bc n0 rv pa ba bs bv sn kv y zn zf (va_up s 0 (nI 0)) fa si sr (va_up pu p V) ro pm bm ma ti := by
  obtain ⟨h1, h2, h3, h4, h5⟩ := h
  refine ⟨h1, h2, h3, fun i hi => ?_, h5⟩
  by_cases e : i = p
  · rw [e, va_us, va_us]
  · rw [va_un e, va_un e]; exact h4 i hi
theorem St.start (h : St o F S tr zk kn mt bc n0 rv pa ba bs bv sn kv y zn zf s fa si sr pu ro pm bm ma ti) (h12 : sn < 12) (V : zp) : St o F S tr zk kn mt bc n0 rv pa ba bs bv (sn + 1) (sn + 1) (va_up y sn V) zn zf (va_up (va_up s 0 (nI 0)) 5 (nI (sn + 1))) fa si (va_up sr sn V) pu ro pm bm ma ti := by
  obtain ⟨h1, h2, h3, h4, h5, h6, h7, h8, h9, h10, h11⟩ := h
  refine ⟨h1, h2, h3, h4, rfl, VOk_new (by omega) (fun j hj => ?_), h7, h8, h9, h10, h11⟩
  by_cases e : j = sn
  · rw [e, va_us, va_us]
  · rw [va_un e, va_un e]; exact h6.2.2.2.1 j (by omega)
theorem St.clear (h : St o F S tr zk kn mt bc n0 rv pa ba bs bv sn kv y zn zf s fa si sr pu ro pm bm ma ti) {F' : Nat → Nat → zp} {S' tr' fa' si' pu' : Nat → zp} (e1 : ∀ i, i < 5 → ∀ a, a < 7 → F' i a = 0) (e2 : ∀ a, a < 11 → S' a = 0) (e3 : ∀ a, a < 13 → tr' a = 0) (e4 : ∀ j, j < 35 → fa' j = 0) (e5 : ∀ j, j < 11 → si' j = 0) (e6 : ∀ j, j < 13 → pu' j = 0) : St o F' S' tr' false false mt bc n0 rv pa ba bs bv 0 0 y zn zf (va_up (va_up (va_up s 0 (nI 0)) 8 (nI 0)) 5 (nI 0)) fa' si' sr pu' ro pm bm ma ti := by
  obtain ⟨h1, h2, h3, h4, h5, h6, h7, h8, h9, h10, nm, mm, pw, h11, h12, h13, h14⟩ := h
  have ho := h1.1
  exact ⟨⟨ho, fun i hi a ha => by rw [e1 i (by omega) a ha, e4 _ (by omega)], fun i _ h5 a ha => e1 i h5 a ha⟩, h2, fun i hi => by rw [e2 i hi, e5 i hi], fun j hj => by rw [e3 j hj, e6 j hj], rfl, VOk_new (by omega) (fun j hj => absurd hj (by omega)), rfl, fun z => (by cases z), h9, fun z => (by cases z), nm, mm, pw, h11, h12, h13, fun z => (by cases z)⟩
theorem St.gu (h : St o F S tr zk kn mt bc n0 rv pa ba bs bv sn kv y zn zf s fa si sr pu ro pm bm ma ti) {q q' : Option Nat} (a : GreatS F q) (b : GrM fa o q') : q = q' := GrM.uniq (h.1.great a) b
theorem St.val (h : St o F S tr zk kn mt bc n0 rv pa ba bs bv sn kv y zn zf s fa si sr pu ro pm bm ma ti) {g n : Nat} (hg : GreatS F (some g)) (hs : g ≤ sn) (hn : n < 301) : St o F S tr zk kn mt bc n0 rv pa ba bs bv sn (vaR F S g (n + 1 - kv) kv y).2.1 (vaR F S g (n + 1 - kv) kv y).2.2 zn zf (va_up s 0 (nI 0)) fa si sr pu ro pm bm ma ti ∧
    (if (vaR F S g (n + 1 - kv) kv y).1 = true then nI ((vaR F S g (n + 1 - kv) kv y).2.2 n).val else -1) = (if (vaR (FF fa) si g (n + 1 - sn) sn sr).1 = true then nI ((vaR (FF fa) si g (n + 1 - sn) sn sr).2.2 n).val else -1) := by
  have hgo : g ≤ o := by
    rcases h.1.great hg with ⟨z, -⟩ | ⟨i, z, hi, -⟩
    · cases z
    · cases z; exact hi
  constructor
  · obtain ⟨h1, h2, h3, h4, h5, h6, h7⟩ := h
    exact ⟨h1, h2, h3, h4, h5, h6.next hg hs (fun g' hg' => Option.some.inj (GrM.uniq (h1.great hg') (h1.great hg))) hn, h7⟩
  · obtain ⟨a, b⟩ := h.2.2.2.2.2.1.at hg hs hn
    rw [← h.1.vaq h.2.2.1 hgo]
    by_cases c : (vaR F S g (n + 1 - kv) kv y).1 = true
    · rw [if_pos c, if_pos (a ▸ c), b c]
    · rw [if_neg c, if_neg (a ▸ c)]
theorem St.sing (h : St o F S tr zk kn mt bc n0 rv pa ba bs bv sn kv y zn zf s fa si sr pu ro pm bm ma ti) {g zn' : Nat} {zf' : Nat → zp} (hg : GreatS F (some g)) (h6 : zn' ≤ 6) (hi : Inc zn' zf') (hh : ∀ y, Has zn' zf' y ↔ ev (F g) 7 y = 0) : St o F S tr true kn mt bc n0 rv pa ba bs bv sn kv y zn' zf' (va_up s 0 (nI 0)) fa si sr pu ro pm bm ma ti ∧ ∀ g, GrM fa o (some g) → ∀ y, Has zn' zf' y ↔ phor (FF fa g) y 7 0 = 0 := by
  have hu : ∀ g', GreatS F (some g') → g' = g := fun g' hg' => Option.some.inj (GrM.uniq (h.1.great hg') (h.1.great hg))
  constructor
  · obtain ⟨h1, h2, h3, h4, h5, h6', h7, h8, h9⟩ := h
    exact ⟨h1, h2, h3, h4, h5, h6', h7, fun _ => ⟨h6, hi, fun g' hg' => by rw [hu g' hg']; exact hh⟩, h9⟩
  · intro g' hg' y
    have e : g' = g := Option.some.inj (GrM.uniq hg' (h.1.great hg))
    subst e
    have hgo : g' ≤ o := by
      rcases hg' with ⟨z, -⟩ | ⟨i, z, hi, -⟩
      · cases z
      · cases z; exact hi
    rw [← h.1.val hgo, phor_0]; exact hh y
theorem St.roots (h : St o F S tr zk kn mt bc n0 rv pa ba bs bv sn kv y zn zf s fa si sr pu ro pm bm ma ti) : ∃ (nr : Nat) (rt : Nat → zp), nr ≤ 6 ∧ Inc nr rt ∧ ((∃ g, GrM fa o (some g)) → ∀ t, HiM fa o t → ∀ y, Has nr rt y ↔ tpR fa o t y) := by
  by_cases c : dmax F 5 = 0
  · refine ⟨0, fun _ => 0, by omega, fun i j _ hj => absurd hj (by omega), fun ⟨g, hg⟩ => ?_⟩
    rcases hg with ⟨z, -⟩ | ⟨i, z, hi, ⟨a, ha, hn⟩, -⟩
    · cases z
    · have := dmax_ge F 5 i (by have := h.1.1; omega)
      exact absurd ((h.1.deg hi).mp (by omega) a ha) hn
  · obtain ⟨a1, a2, a3⟩ := find_spec (q := tnP F) (f := fun _ => 0) (tnP_deg c).1
    exact ⟨_, _, a1, a2, fun _ t ht y => (a3 y).trans (h.1.top c ht y)⟩
theorem St.run0 (h : St o F S tr zk kn mt bc n0 rv pa ba bs bv sn kv y zn zf s fa si sr pu ro pm bm ma ti) (hg : GreatS F none) : St o F S tr zk kn mt bc n0 rv pa ba bs bv sn kv y zn zf (va_up (va_up s 0 (nI 0)) 8 (nI 0)) fa si sr pu ro pm bm ma ti := by
  obtain ⟨h1, h2, h3, h4, h5, h6, h7, h8, h9, h10, nm, mm, pw, h11, h12, h13, h14⟩ := h
  have hk : kn = false := by
    cases kn with
    | false => rfl
    | true =>
      obtain ⟨⟨g, hg'⟩, -⟩ := h10 rfl
      cases GrM.uniq (h1.great hg) (h1.great hg')
  subst hk
  exact ⟨h1, h2, h3, h4, h5, h6, rfl, h8, h9, h10, nm, mm, pw, h11, h12, h13, h14⟩
theorem St.run1 (h : St o F S tr zk kn mt bc n0 rv pa ba bs bv sn kv y zn zf s fa si sr pu ro pm bm ma ti) {mt' : Bool} {bc' n0' : Nat} {rv' pa' ba' : Nat → zp} {bs' : Nat → Nat} {bv' : Nat → Nat → zp} (hC : KC F S mt' bc' n0' rv' pa' ba' bs' bv') (hb : bc' ≤ 4) {s' : Nat → Int32} {ro' pm' bm' ma' ti' : Nat → zp} {n pw t : Nat} {mm : Bool} (e1 : s' 1 = nI o) (e5 : s' 5 = s 5) (e8 : s' 8 = nI 1) (e9 : s' 9 = nI n) (e11 : s' 11 = bI mm) (e13 : s' 13 = nI pw) (hpw : pw ≤ 6) (ht : HiM fa o t) (hP : ResP (rM fa si o 1) n ro') (hM : ResM (rM fa si o 1) mm pm') (hB : ResB (rM fa si o) (tpR fa o t) pw bm' (fun k => (ma' k).val) (fun k m => ti' (169 * k + m))) : St o F S tr zk true mt' bc' n0' rv' pa' ba' bs' bv' sn kv y zn zf s' fa si sr pu ro' pm' bm' ma' ti' := by
  obtain ⟨h1, h2, h3, h4, h5, h6, h7, h8, h9, h10, h11⟩ := h
  exact ⟨h1, e1, h3, h4, e5.trans h5, h6, e8, h8, ⟨hC.2.1.le, hb, fun a ha => (hC.2.2.2.2.2 a ha).le⟩, fun _ => hC, n, mm, pw, ⟨e9, hP.le⟩, e11, ⟨e13, hpw, fun a ha => (hB.2.2 a ha).le⟩, fun _ => ⟨t, ht, hP, hM, hB⟩⟩
end STS
