/-! the words of the throws -/
def th_chk (ic : Nat) (X : String) (names : List String) : Bool := (vx_atS "RecurrenceAnswers" ic X names).all (fun w => (decide (w ∈ tables_1) && goodWord w) || (decide (w = .castable X X) || ga_dcl.any (fun y => decide (w = .declares (Bundle.initS y)))))
theorem th_of {ic : Nat} {X : String} {names : List String} (hX : X ∈ ga_exc) (h : th_chk ic X names = true) : ∀ w ∈ vx_atS "RecurrenceAnswers" ic X names, w ∈ ga_Gl ∨ (w = .castable X X ∧ X ∈ ga_exc) ∨ ∃ y, y ∈ ga_dcl ∧ w = .declares (Bundle.initS y) := fun w hw => by
  have h1 := List.all_eq_true.mp h w hw
  simp only [Bool.or_eq_true, Bool.and_eq_true, decide_eq_true_eq, List.any_eq_true] at h1
  rcases h1 with ⟨a, b⟩ | rfl | ⟨y, hy, e⟩
  · exact Or.inl (ga_Gl_of (List.mem_append_right _ a) b)
  · exact Or.inr (Or.inl ⟨rfl, hX⟩)
  · exact Or.inr (Or.inr ⟨y, hy, e⟩)
def th_ot (ik ic : Nat) (X : String) (names : List String) : Bool := (Cond.classLink "RecurrenceAnswers" ik X :: Cond.initialized X :: vx_atS "RecurrenceAnswers" ic X names).all vx_ot
abbrev th_n3 : List String := ["java/lang/IndexOutOfBoundsException", "java/lang/RuntimeException", "java/lang/Exception"]
abbrev th_n2 : List String := ["java/lang/RuntimeException", "java/lang/Exception"]
abbrev nmB : String := "java/lang/ArrayIndexOutOfBoundsException"
abbrev nmI : String := "java/lang/IllegalArgumentException"
abbrev nmR : String := "java/lang/ArithmeticException"
abbrev nmS : String := "java/lang/IllegalStateException"
set_option maxRecDepth 100000 in
set_option maxHeartbeats 4000000 in
theorem th_B : th_chk 67 nmB th_n3 = true := by decide +kernel
set_option maxRecDepth 100000 in
set_option maxHeartbeats 4000000 in
theorem th_I : th_chk 74 nmI th_n2 = true := by decide +kernel
set_option maxRecDepth 100000 in
set_option maxHeartbeats 4000000 in
theorem th_R : th_chk 85 nmR th_n2 = true := by decide +kernel
set_option maxRecDepth 100000 in
set_option maxHeartbeats 4000000 in
theorem th_S : th_chk 200 nmS th_n2 = true := by decide +kernel
theorem thr_B : ga_thr 63 65 67 nmB "no such factor" th_n3 := ⟨cl_X8_63, wi_Jx00060, by decide, ⟨by decide +kernel, by decide +kernel⟩, th_of (by decide) th_B, List.all_eq_true.mp (show th_ot 63 67 nmB th_n3 = true by decide +kernel), by decide⟩
theorem thr_I {is : Nat} {text : String} (h : (is, text) ∈ ga_txt) : ga_thr 70 is 74 nmI text th_n2 := ⟨cl_X8_70, wi_java_lang_IllegalArgumentException, h, ⟨by decide +kernel, by decide +kernel⟩, th_of (by decide) th_I, List.all_eq_true.mp (show th_ot 70 74 nmI th_n2 = true by decide +kernel), by decide⟩
theorem thr_R : ga_thr 81 83 85 nmR "below is 0 modulo 32003" th_n2 := ⟨cl_X8_81, wi_java_lang_ArithmeticException, by decide, ⟨by decide +kernel, by decide +kernel⟩, th_of (by decide) th_R, List.all_eq_true.mp (show th_ot 81 85 nmR th_n2 = true by decide +kernel), by decide⟩
theorem thr_S : ga_thr 196 198 200 nmS "the answers are not known" th_n2 := ⟨cl_X8_196, wi_java_lang_IllegalStateException, by decide, ⟨by decide +kernel, by decide +kernel⟩, th_of (by decide) th_S, List.all_eq_true.mp (show th_ot 196 200 nmS th_n2 = true by decide +kernel), by decide⟩
