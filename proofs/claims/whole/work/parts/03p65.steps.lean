/-! THE CLASS'S TRIAL, with any settings, day by day and by many days -/
theorem daysK_add {T : Nat → Nat → Int} {dm bt df : Int} {fr : Bool} {ai : Nat → Bool} {V : Nat → Nat → Int} {k : Nat} : ∀ m : Nat, daysK T dm bt df fr ai V (k + m) = daysK T dm bt df fr ai (daysK T dm bt df fr ai V k) m := by
  intro m
  induction m with
  | zero => rfl
  | succ m ih =>
    show dayK T dm bt df fr ai (daysK T dm bt df fr ai V (k + m)) = dayK T dm bt df fr ai (daysK T dm bt df fr ai (daysK T dm bt df fr ai V k) m)
    rw [ih]
def gX (t τ : Mm) (k : Nat) : Prop := Wg 49 t τ (daysK (vw t 5) (gi t 70 2) (gi t 70 3) (gi t 70 4) (decide (gi t 70 5 ≠ 0)) (fun u => !bi (gi t 49 1) u) (wv t 49) k)
theorem gX_0 {t : Mm} : gX t t 0 := ⟨fun _ _ _ _ => rfl, fun _ _ _ _ => rfl, rfl⟩
theorem gX.same {t τ : Mm} {k : Nat} (h : gX t τ k) : vw τ 5 = vw t 5 ∧ gi τ 70 2 = gi t 70 2 ∧ gi τ 70 3 = gi t 70 3 ∧ gi τ 70 4 = gi t 70 4 ∧ gi τ 70 5 = gi t 70 5 ∧ gi τ 49 1 = gi t 49 1 ∧ gi τ 49 0 = gi t 49 0 + (k : Int) := by
  refine ⟨(ScX.wg h).T, h.1 70 2 (by omega) (by omega), h.1 70 3 (by omega) (by omega), h.1 70 4 (by omega) (by omega), h.1 70 5 (by omega) (by omega), ?_, ?_⟩
  · have := congrFun (congrFun h.2.2 0) 1
    rw [daysK_kept] at this
    exact this
  · have := congrFun (congrFun h.2.2 0) 0
    rw [daysK_day] at this
    exact this
theorem gX.pass {t τ s : Mm} {k m : Nat} (h : gX t τ k) (w : gX τ s m) : gX t s (k + m) := by
  refine Wg.tr h ?_
  obtain ⟨e1, e2, e3, e4, e5, e6, -⟩ := h.same
  unfold gX at w
  rw [e1, e2, e3, e4, e5, e6, h.2.2, ← daysK_add] at w
  exact w
theorem gX.day {t τ s : Mm} {k : Nat} (h : gX t τ k) (w : Wg 49 τ s (dayV (vw τ 5) (wv τ 49) (moD (vw τ 5) (gi τ 70 2) (gi τ 49 0)) (gi τ 70 3) (gi τ 70 4) (decide (gi τ 70 5 ≠ 0)) (fun u => !bi (gi τ 49 1) u))) : gX t s (k + 1) := h.pass (m := 1) w
