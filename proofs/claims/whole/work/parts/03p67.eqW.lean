/-! DAYS don't read the places that aren't there -/
theorem eqW_lay {V V' : Nat → Nat → Int} (h : eqW V V') {u : Nat} (hu : u < 5) (hs : 0 ≤ V 6 u ∧ V 6 u ≤ 8) (c : Nat) : eqW (layV V u c) (layV V' u c) := fun f i p => by
  have e6 : V' 6 u = V 6 u := (h 6 u (by unfold inW; omega)).symm
  have e7 : V' 7 (u * 8) = V 7 (u * 8) := (h 7 _ (by unfold inW; omega)).symm
  have hi := h f i p
  simp only [layV, e6, e7]
  by_cases h8 : V 6 u < 8
  · simp only [if_pos h8]
    by_cases f4 : f = 4
    · subst f4; simp only [if_pos trivial]; rw [hi]
    · by_cases f6 : f = 6
      · subst f6; simp only [if_neg f4, if_pos trivial]; rw [hi]
      · by_cases f7 : f = 7
        · subst f7; simp only [if_neg f4, if_neg f6, if_pos trivial]; rw [hi]
        · simp only [if_neg f4, if_neg f6, if_neg f7]; exact hi
  · simp only [if_neg h8]
    by_cases f4 : f = 4
    · subst f4; simp only [if_pos trivial]; rw [hi]
    · by_cases f6 : f = 6
      · subst f6; simp only [if_neg f4, if_pos trivial]; rw [hi]
      · by_cases f7 : f = 7
        · subst f7; simp only [if_neg f4, if_neg f6, if_pos trivial]
          rw [hi]
          by_cases q : u * 8 ≤ i ∧ i < u * 8 + 7
          · rw [if_pos q, if_pos q, h 7 (i + 1) (by unfold inW; omega)]
          · rw [if_neg q, if_neg q]
        · simp only [if_neg f4, if_neg f6, if_neg f7]; exact hi
theorem eqW_if {P : Prop} [Decidable P] {A A' : Nat → Nat → Int} (h : eqW A A') {u : Nat} (hu : u < 5) (hs : 0 ≤ A 6 u ∧ A 6 u ≤ 8) (c : Nat) : eqW (if P then A else layV A u c) (if P then A' else layV A' u c) := by
  split
  · exact h
  · exact eqW_lay h hu hs c
theorem eqW_hear {T V V' : Nat → Nat → Int} (hb : BkOK T) (hs : SI T V) (h : eqW V V') (mo : Int) (fr : Bool) {c : Nat} (hc : (c : Int) < T 0 1) : eqW (hearV T V mo fr c) (hearV T V' mo fr c) := by
  have hJ := hb.1
  have hC := hb.2.1
  have e1 : V' 1 c = V 1 c := (h 1 c (by unfold inW; omega)).symm
  have i1 := hs.1 c hc
  have i5 := hs.2.1 (V 1 c).toNat (by omega)
  have e5 : V' 5 (V 1 c).toNat = V 5 (V 1 c).toNat := (h 5 _ (by unfold inW; omega)).symm
  have e6 : V' 6 (V 5 (V 1 c).toNat).toNat = V 6 (V 5 (V 1 c).toNat).toNat := (h 6 _ (by unfold inW; omega)).symm
  have e0 : V' 0 0 = V 0 0 := (h 0 0 (by unfold inW; omega)).symm
  have i6 := hs.2.2.1 (V 5 (V 1 c).toNat).toNat (by omega)
  simp only [hearV, e1, e5, e6, e0]
  have hV1 : ∀ x y : Int, eqW (fun f i => if f = 2 ∧ i = c then x else if f = 3 ∧ i = c then y else V f i) (fun f i => if f = 2 ∧ i = c then x else if f = 3 ∧ i = c then y else V' f i) := fun x y f i p => by
    show (if f = 2 ∧ i = c then x else if f = 3 ∧ i = c then y else V f i) = (if f = 2 ∧ i = c then x else if f = 3 ∧ i = c then y else V' f i)
    rw [h f i p]
  exact eqW_if (hV1 _ _) (by omega) (by simpa using i6) c
theorem eqW_hears {T V V' : Nat → Nat → Int} (hb : BkOK T) (hs : SI T V) (h : eqW V V') (mo df : Int) (fr : Bool) : ∀ c : Nat, (c : Int) ≤ T 0 1 → eqW (hearsV T V mo df fr c) (hearsV T V' mo df fr c) := by
  intro c
  induction c with
  | zero => intro _; exact h
  | succ c ih =>
    intro hc
    have ih := ih (by omega)
    have hC := hb.2.1
    have e0 : V 0 0 = V' 0 0 := h 0 0 (by unfold inW; omega)
    simp only [hearsV, e0, ih 1 c (by unfold inW; omega)]
    split
    · exact eqW_hear hb (SI_hears hb hs c (by omega)) ih mo fr (by omega)
    · exact ih
theorem eqW_airN {T V V' : Nat → Nat → Int} (h : eqW V V') {u : Nat} (hu : u < 5) (hs : V 6 u ≤ 8) : ∀ m : Nat, (m : Int) ≤ V 6 u → eqW (airN T V u m) (airN T V' u m) := by
  intro m
  induction m with
  | zero => intro _; exact h
  | succ m ih =>
    intro hm f i p
    have ih := ih (by omega)
    have e6 : V' 6 u = V 6 u := (h 6 u (by unfold inW; omega)).symm
    have e7 : airN T V' u m 7 (u * 8 + ((V 6 u).toNat - 1 - m)) = airN T V u m 7 (u * 8 + ((V 6 u).toNat - 1 - m)) := (ih 7 _ (by unfold inW; omega)).symm
    have e0 : airN T V' u m 0 0 = airN T V u m 0 0 := (ih 0 0 (by unfold inW; omega)).symm
    have hi := ih f i p
    simp only [airN, stepA, tellV, e6, e7, e0]
    by_cases f4 : f = 4
    · subst f4; simp only [if_pos trivial]; rw [hi]
    · by_cases f8 : f = 8
      · subst f8; simp only [if_neg f4, if_pos trivial]; rw [hi]
      · simp only [if_neg f4, if_neg f8]; exact hi
theorem eqW_airU {T V V' : Nat → Nat → Int} (h : eqW V V') {u m : Nat} (hu : u < 5) (hs : V 6 u ≤ 8) (hm : (m : Int) ≤ V 6 u) : eqW (airU T V u m) (airU T V' u m) := fun f i p => by
  have e6 : V' 6 u = V 6 u := (h 6 u (by unfold inW; omega)).symm
  have hi := h f i p
  simp only [airU, e6]
  by_cases f6 : f = 6
  · subst f6; simp only [if_pos trivial]; rw [hi]
  · simp only [if_neg f6]; exact eqW_airN h hu hs m hm f i p
theorem eqW_airJ {T V V' : Nat → Nat → Int} (hb : BkOK T) (hs : SI T V) (h : eqW V V') (mo bt : Int) (ai : Nat → Bool) : ∀ j : Nat, (j : Int) ≤ T 0 0 → eqW (airJ T V mo bt ai j) (airJ T V' mo bt ai j) := by
  intro j
  induction j with
  | zero => intro _; exact h
  | succ j ih =>
    intro hj
    have ih := ih (by omega)
    have hJ := hb.1
    have e5 : V' 5 j = V 5 j := (h 5 j (by unfold inW; omega)).symm
    have i5 := hs.2.1 j (by omega)
    have sj := SI_airJ hb hs (mo := mo) (bt := bt) (ai := ai) j (by omega)
    have i6 := sj.2.2.1 (V 5 j).toNat (by omega)
    simp only [airJ, e5]
    split
    · rw [← outN_eq (ih 6 _ (by unfold inW; omega)) (ih 0 0 (by unfold inW; omega))]
      exact eqW_airU ih (by omega) i6.2 (outN_le i6.1)
    · exact ih
theorem eqW_day {T V V' : Nat → Nat → Int} (hb : BkOK T) (hs : SI T V) (h : eqW V V') (mo bt df : Int) (fr : Bool) (ai : Nat → Bool) : eqW (dayV T V mo bt df fr ai) (dayV T V' mo bt df fr ai) := fun f i p => by
  have e0 : V' 0 0 = V 0 0 := (h 0 0 (by unfold inW; omega)).symm
  have hJ := hb.1
  have hC := hb.2.1
  have hh := eqW_hears hb hs h mo df fr (T 0 1).toNat (by omega)
  simp only [dayV, e0]
  split
  · rfl
  · split
    · exact eqW_airJ hb (SI_hears hb hs _ (by omega)) hh mo bt ai _ (by omega) f i p
    · exact hh f i p
