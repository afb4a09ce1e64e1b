/-- the word 'superclass' stays, whatever is resolved -/
theorem sup_moved {C P : String} {u U : State} (hvm : u.vm.Alike U.vm) (h : va_Nw (.superclass C P) u) : va_Nw (.superclass C P) U := by
  have h' : (Cond.superclass C P).holds #[] u none u [] = true := h
  cases hc : u.vm.findClass C with
  | none => simp [Cond.holds, Cond.value, hc] at h'
  | some c =>
    obtain ⟨p, k, kp, h1, h2, h3, h4, h5, h6, h7⟩ := Cond.superclass_spec hc h'
    obtain ⟨k', e1, e2⟩ := hvm.2.2 _ _ h2
    obtain ⟨kp', f1, f2⟩ := hvm.2.2 _ _ h3
    have g1 : U.vm.findClass C = some c := by rw [hvm.findClass]; exact hc
    have g2 : U.vm.findClass P = some p := by rw [hvm.findClass]; exact h1
    have a1 : k'.super = some p := by rw [e2]; exact h4
    have a2 : k'.kind = .ordinary := by rw [e2]; exact h5
    have a3 : kp'.kind = .ordinary := by rw [f2]; exact h6
    have a4 : k'.isInterface = false := by rw [e2]; exact h7
    show (Cond.superclass C P).holds #[] U none U [] = true
    simp [Cond.holds, Cond.value, g1, g2, e1, f1, a1, a2, a3, a4]
theorem sup_in : Cond.superclass "java/lang/Throwable" "java/lang/Object" ∈ lw_tbl := by decide +kernel
