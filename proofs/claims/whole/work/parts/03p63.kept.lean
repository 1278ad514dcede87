/-! THE DAYS don't read who is kept in (that is ai's) -/
def eqK (V V' : Nat → Nat → Int) : Prop := ∀ f i, ¬ (f = 0 ∧ i = 1) → V f i = V' f i
theorem eqK_lay {V V' : Nat → Nat → Int} (h : eqK V V') (u c : Nat) : eqK (layV V u c) (layV V' u c) := fun f i p => by
  have e : ∀ g x, g ≠ 0 → V g x = V' g x := fun g x q => h g x (fun z => q z.1)
  simp only [layV, e 6 _ (by omega), e 4 _ (by omega), e 7 _ (by omega), h f i p]
theorem eqK_if {P : Prop} [Decidable P] {A A' : Nat → Nat → Int} (h : eqK A A') (u c : Nat) : eqK (if P then A else layV A u c) (if P then A' else layV A' u c) := by
  split
  · exact h
  · exact eqK_lay h u c
theorem eqK_hear {T V V' : Nat → Nat → Int} (h : eqK V V') (mo : Int) (fr : Bool) (c : Nat) : eqK (hearV T V mo fr c) (hearV T V' mo fr c) := by
  have e : ∀ g x, g ≠ 0 → V g x = V' g x := fun g x q => h g x (fun z => q z.1)
  have e0 : V 0 0 = V' 0 0 := h 0 0 (by omega)
  simp only [hearV, e 1 _ (by omega), e 5 _ (by omega), e 6 _ (by omega), e0]
  refine eqK_if (fun f i p => ?_) _ _
  simp only [h f i p]
theorem eqK_hears {T V V' : Nat → Nat → Int} (h : eqK V V') (mo df : Int) (fr : Bool) : ∀ c : Nat, eqK (hearsV T V mo df fr c) (hearsV T V' mo df fr c) := by
  intro c
  induction c with
  | zero => exact h
  | succ c ih =>
    have e0 : V 0 0 = V' 0 0 := h 0 0 (by omega)
    simp only [hearsV, e0, ih 1 c (by omega)]
    split
    · exact eqK_hear ih mo fr c
    · exact ih
theorem eqK_airN {T V V' : Nat → Nat → Int} (h : eqK V V') (u : Nat) : ∀ m : Nat, eqK (airN T V u m) (airN T V' u m) := by
  intro m
  induction m with
  | zero => exact h
  | succ m ih =>
    intro f i p
    have e6 : V 6 u = V' 6 u := h 6 u (by omega)
    have e : ∀ g x, g ≠ 0 → airN T V u m g x = airN T V' u m g x := fun g x q => ih g x (fun z => q z.1)
    have e0 := ih 0 0 (by omega)
    simp only [airN, stepA, tellV, e6, e 7 _ (by omega), e 4 _ (by omega), e 8 _ (by omega), e0, ih f i p]
theorem eqK_airU {T V V' : Nat → Nat → Int} (h : eqK V V') (u m : Nat) : eqK (airU T V u m) (airU T V' u m) := fun f i p => by
  have e : ∀ x, V 6 x = V' 6 x := fun x => h 6 x (by omega)
  simp only [airU, e, eqK_airN h u m f i p]
theorem eqK_airJ {T V V' : Nat → Nat → Int} (h : eqK V V') (mo bt : Int) (ai : Nat → Bool) : ∀ j : Nat, eqK (airJ T V mo bt ai j) (airJ T V' mo bt ai j) := by
  intro j
  induction j with
  | zero => exact h
  | succ j ih =>
    have e5 : V 5 j = V' 5 j := h 5 j (by omega)
    simp only [airJ, e5]
    split
    · rw [outN_eq (ih 6 _ (by omega)) (ih 0 0 (by omega))]
      exact eqK_airU ih _ _
    · exact ih
theorem eqK_day {T V V' : Nat → Nat → Int} (h : eqK V V') (mo bt df : Int) (fr : Bool) (ai : Nat → Bool) : eqK (dayV T V mo bt df fr ai) (dayV T V' mo bt df fr ai) := fun f i p => by
  have e0 : V 0 0 = V' 0 0 := h 0 0 (by omega)
  simp only [dayV, e0]
  split
  · rfl
  · split
    · exact eqK_airJ (eqK_hears h mo df fr _) mo bt ai _ f i p
    · exact eqK_hears h mo df fr _ f i p
theorem eqK_days {T V V' : Nat → Nat → Int} (h : eqK V V') (dm bt df : Int) (fr : Bool) (ai : Nat → Bool) : ∀ n : Nat, eqK (daysK T dm bt df fr ai V n) (daysK T dm bt df fr ai V' n) := by
  intro n
  induction n with
  | zero => exact h
  | succ n ih =>
    simp only [daysK, dayK]
    rw [ih 0 0 (by omega)]
    exact eqK_day ih _ _ _ _ _
/-- nor do they read which cushions are aired but for those of the judges -/
theorem daysK_ai {T V : Nat → Nat → Int} {dm bt df : Int} {fr : Bool} {ai ai' : Nat → Bool} (h : ∀ u, ai u = ai' u) (n : Nat) : daysK T dm bt df fr ai V n = daysK T dm bt df fr ai' V n := by rw [show ai = ai' from funext h]
