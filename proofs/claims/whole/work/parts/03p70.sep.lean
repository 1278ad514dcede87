/-! AIRING: what is heard of a cushion's feathers depends on its own airings alone -/
def pD (T V : Nat → Nat → Int) (ai : Nat → Nat → Bool) : Nat → (Nat → Nat → Int)
  | 0 => V
  | k + 1 => dayV T (pD T V ai k) (moT T (pD T V ai k 0 0)) (T 0 5) (-1) false (ai k)
theorem pD_day {T V : Nat → Nat → Int} {ai : Nat → Nat → Bool} : ∀ k : Nat, pD T V ai k 0 0 = V 0 0 + (k : Int) := by
  intro k
  induction k with
  | zero => show V 0 0 = V 0 0 + ((0 : Nat) : Int); omega
  | succ k ih => simp only [pD, dayV]; rw [if_pos ⟨trivial, trivial⟩, ih]; omega
theorem pD_at {T V : Nat → Nat → Int} {ai : Nat → Nat → Bool} {f i : Nat} (h0 : ¬ (f = 0 ∧ i = 0)) (h2 : f ≠ 2) (h3 : f ≠ 3) (h4 : f ≠ 4) (h6 : f ≠ 6) (h7 : f ≠ 7) (h8 : f ≠ 8) : ∀ k : Nat, pD T V ai k f i = V f i := by
  intro k
  induction k with
  | zero => rfl
  | succ k ih => simp only [pD]; rw [dayV_at h0 h2 h3 h4 h6 h7 h8, ih]
theorem SI_pD {T V : Nat → Nat → Int} {ai : Nat → Nat → Bool} (hb : BkOK T) (h : SI T V) : ∀ k : Nat, SI T (pD T V ai k) := by
  intro k
  induction k with
  | zero => exact h
  | succ k ih => exact SI_day hb ih
theorem B8_pD {T V : Nat → Nat → Int} {ai : Nat → Nat → Bool} (hb : BkOK T) (h : SI T V) (h8 : B8 V) : ∀ k : Nat, B8 (pD T V ai k) := by
  intro k
  induction k with
  | zero => exact h8
  | succ k ih => exact B8_day hb (SI_pD hb h k) ih
theorem pD_8 {T V : Nat → Nat → Int} {ai : Nat → Nat → Bool} {i : Nat} (hi : T 0 2 ≤ (i : Int)) : ∀ k : Nat, pD T V ai k 8 i = V 8 i := by
  intro k
  induction k with
  | zero => rfl
  | succ k ih => simp only [pD]; rw [dayV_8 (Or.inl hi), ih]
theorem eqW_pD {T V V' : Nat → Nat → Int} {ai : Nat → Nat → Bool} (hb : BkOK T) (hs : SI T V) (h : eqW V V') : ∀ k : Nat, eqW (pD T V ai k) (pD T V' ai k) := by
  intro k
  induction k with
  | zero => exact h
  | succ k ih =>
    simp only [pD]
    rw [ih 0 0 (by unfold inW; omega)]
    exact eqW_day hb (SI_pD hb hs k) ih _ _ _ _ _
/-- every feather lies in its case's own cushion -/
def HI (H : Nat → Nat) (V : Nat → Nat → Int) : Prop := ∀ u p : Nat, u < 5 → (p : Int) < V 6 u → H (V 7 (u * 8 + p)).toNat = u
theorem HI_lay {H : Nat → Nat} {T V : Nat → Nat → Int} (hs : SI T V) (h : HI H V) {u c : Nat} (hu : u < 5) (hc : H c = u) : HI H (layV V u c) := by
  intro x p hx hp
  have h6 := hs.2.2.1 u hu
  have h3x := hs.2.2.1 x hx
  by_cases h8 : V 6 u < 8
  · simp only [layV, if_pos h8] at hp ⊢
    simp only [if_neg (show ¬ (6 : Nat) = 4 by omega), if_pos, if_neg (show ¬ (7 : Nat) = 4 by omega), if_neg (show ¬ (7 : Nat) = 6 by omega)] at hp ⊢
    have hp8 : p < 8 := by split at hp <;> omega
    by_cases hi : x * 8 + p = u * 8 + (V 6 u).toNat
    · rw [if_pos hi, Int.toNat_natCast, hc]; omega
    · rw [if_neg hi]
      refine h x p hx ?_
      split at hp
      · rename_i hxu; subst hxu; omega
      · exact hp
  · simp only [layV, if_neg h8] at hp ⊢
    simp only [if_neg (show ¬ (6 : Nat) = 4 by omega), if_pos, if_neg (show ¬ (7 : Nat) = 4 by omega), if_neg (show ¬ (7 : Nat) = 6 by omega)] at hp ⊢
    have hp8 : p < 8 := by split at hp <;> omega
    split
    · rw [Int.toNat_natCast, hc]; omega
    · split
      · rename_i q1 q2
        have hxu : x = u := by omega
        subst hxu
        have := h x (p + 1) hx (by omega)
        exact this
      · refine h x p hx ?_
        split at hp
        · omega
        · exact hp
theorem HI_hear {H : Nat → Nat} {T V : Nat → Nat → Int} (hb : BkOK T) (hs : SI T V) (h : HI H V) {mo : Int} {fr : Bool} {c : Nat} (hc : (c : Int) < T 0 1) (hH : H c = (V 5 (V 1 c).toNat).toNat) : HI H (hearV T V mo fr c) := by
  have hJ := hb.1
  have i1 := hs.1 c hc
  have i5 := hs.2.1 (V 1 c).toNat (by omega)
  have key : ∀ x y : Int, HI H (fun f i => if f = 2 ∧ i = c then x else if f = 3 ∧ i = c then y else V f i) := fun x y u p hu hp => by
    simpa using h u p hu (by simpa using hp)
  have keyS : ∀ x y : Int, SI T (fun f i => if f = 2 ∧ i = c then x else if f = 3 ∧ i = c then y else V f i) := fun x y => by
    obtain ⟨h1, h2, h3, h4, h5⟩ := hs
    exact ⟨fun c hc => by simpa using h1 c hc, fun c hc => by simpa using h2 c hc, fun c hc => by simpa using h3 c hc, fun u p hu hp => by simpa using h4 u p hu (by simpa using hp), by simpa using h5⟩
  obtain ⟨th, sd, e⟩ := hearV_ex T V mo fr c
  rw [e]
  split
  · exact key _ _
  · exact HI_lay (keyS _ _) (key _ _) (by omega) hH
/-- the cases of today are at home in the cushions of their judges -/
def HD (H : Nat → Nat) (T V : Nat → Nat → Int) : Prop := ∀ c : Nat, (c : Int) < T 0 1 → V 0 0 ≤ T 6 c → H c = (V 5 (V 1 c).toNat).toNat
theorem HI_hears {H : Nat → Nat} {T V : Nat → Nat → Int} (hb : BkOK T) (hs : SI T V) (h : HI H V) (hd : HD H T V) {mo df : Int} {fr : Bool} : ∀ c : Nat, (c : Int) ≤ T 0 1 → HI H (hearsV T V mo df fr c) := by
  intro c
  induction c with
  | zero => intro _; exact h
  | succ c ih =>
    intro hc
    simp only [hearsV]
    split
    · rename_i q
      refine HI_hear hb (SI_hears hb hs c (by omega)) (ih (by omega)) (by omega) ?_
      rw [hearsV_at (by omega) (by omega) (by omega) (by omega) (by omega), hearsV_at (by omega) (by omega) (by omega) (by omega) (by omega)]
      exact hd c (by omega) (by omega)
    · exact ih (by omega)
theorem HI_air {H : Nat → Nat} {T V : Nat → Nat → Int} (h : HI H V) {u m : Nat} : HI H (airU T V u m) := by
  intro x p hx hp
  rw [airU_at (by omega) (by omega) (by omega)]
  refine h x p hx ?_
  simp only [airU, if_true] at hp
  split at hp
  · rename_i hxu; subst hxu; omega
  · exact hp
theorem HI_airJ {H : Nat → Nat} {T V : Nat → Nat → Int} (h : HI H V) {mo bt : Int} {ai : Nat → Bool} : ∀ j : Nat, HI H (airJ T V mo bt ai j) := by
  intro j
  induction j with
  | zero => exact h
  | succ j ih =>
    simp only [airJ]
    split
    · exact HI_air ih
    · exact ih
theorem HI_day {H : Nat → Nat} {T V : Nat → Nat → Int} (hb : BkOK T) (hs : SI T V) (h : HI H V) (hd : HD H T V) {mo bt df : Int} {fr : Bool} {ai : Nat → Bool} : HI H (dayV T V mo bt df fr ai) := by
  have hC := hb.2.1
  have hh := HI_hears hb hs h hd (mo := mo) (df := df) (fr := fr) (T 0 1).toNat (by omega)
  intro u p hu hp
  simp only [dayV] at hp ⊢
  rw [if_neg (by omega)] at hp ⊢
  by_cases q : V 0 0 % 7 = 0
  · rw [if_pos q] at hp ⊢
    exact HI_airJ hh _ u p hu hp
  · rw [if_neg q] at hp ⊢
    exact hh u p hu hp
theorem HD_pD {H : Nat → Nat} {T V : Nat → Nat → Int} {ai : Nat → Nat → Bool} (h : HD H T V) (k : Nat) : HD H T (pD T V ai k) := fun c hc hd => by
  rw [pD_day] at hd
  rw [pD_at (by omega) (by omega) (by omega) (by omega) (by omega) (by omega) (by omega), pD_at (by omega) (by omega) (by omega) (by omega) (by omega) (by omega) (by omega)]
  exact h c hc (by omega)
theorem HI_pD {H : Nat → Nat} {T V : Nat → Nat → Int} {ai : Nat → Nat → Bool} (hb : BkOK T) (hs : SI T V) (h : HI H V) (hd : HD H T V) : ∀ k : Nat, HI H (pD T V ai k) := by
  intro k
  induction k with
  | zero => exact h
  | succ k ih => exact HI_day hb (SI_pD hb hs k) ih (HD_pD hd k)
/-- bits of cases that are at home elsewhere stay -/
theorem airN_nb {H : Nat → Nat} {T V : Nat → Nat → Int} (hC : T 0 1 ≤ 10) (hs : SI T V) (h : HI H V) {u : Nat} (hu : u < 5) {i x : Nat} (hx : x < 10) (hn : H x ≠ u) : ∀ m : Nat, (m : Int) ≤ V 6 u → bi (airN T V u m 8 i) x = bi (V 8 i) x := by
  intro m
  induction m with
  | zero => intro _; rfl
  | succ m ih =>
    intro hm
    have ih := ih (by omega)
    have h4 := hs.2.2.2.1 u ((V 6 u).toNat - 1 - m) hu (by omega)
    have hh := h u ((V 6 u).toNat - 1 - m) hu (by omega)
    simp only [airN, stepA, tellV]
    rw [if_neg (by omega), if_pos trivial]
    split
    · rw [bi_or, ih, airN_other (by omega) (by omega), shl1 (by omega) (by omega), decide_eq_false (by
        intro e
        rw [e] at hn
        exact hn hh), Bool.or_false]
    · exact ih
theorem airJ_nb {H : Nat → Nat} {T V : Nat → Nat → Int} (hb : BkOK T) (hs : SI T V) (h : HI H V) {mo bt : Int} {ai : Nat → Bool} {i x : Nat} (hx : x < 10) (hn : ai (H x) = false ∨ T 0 0 ≤ (H x : Int)) : ∀ j : Nat, (j : Int) ≤ T 0 0 → bi (airJ T V mo bt ai j 8 i) x = bi (V 8 i) x := by
  intro j
  induction j with
  | zero => intro _; rfl
  | succ j ih =>
    intro hj
    have hJ := hb.1
    have i5 := hs.2.1 j (by omega)
    have sj := SI_airJ hb hs (mo := mo) (bt := bt) (ai := ai) j (by omega)
    have i6 := sj.2.2.1 (V 5 j).toNat (by omega)
    simp only [airJ]
    split
    · rename_i q
      simp only [airU]
      rw [if_neg (by omega), airN_nb hb.2.1.2 sj (HI_airJ h j) (by omega) hx (fun e => by
        rcases hn with z | z
        · rw [e, q] at z; exact Bool.noConfusion z
        · omega) _ (outN_le i6.1)]
      exact ih (by omega)
    · exact ih (by omega)
theorem dayV_nb {H : Nat → Nat} {T V : Nat → Nat → Int} (hb : BkOK T) (hs : SI T V) (h : HI H V) (hd : HD H T V) {mo bt df : Int} {fr : Bool} {ai : Nat → Bool} {i x : Nat} (hx : x < 10) (hn : ai (H x) = false ∨ T 0 0 ≤ (H x : Int)) : bi (dayV T V mo bt df fr ai 8 i) x = bi (V 8 i) x := by
  have hC := hb.2.1
  have hJ := hb.1
  have h8 : hearsV T V mo df fr (T 0 1).toNat 8 i = V 8 i := hearsV_at (by omega) (by omega) (by omega) (by omega) (by omega) _
  simp only [dayV]
  rw [if_neg (by omega)]
  split
  · rw [airJ_nb hb (SI_hears hb hs _ (by omega)) (HI_hears hb hs h hd _ (by omega)) hx hn _ (by omega), h8]
  · rw [h8]
theorem pD_nb {H : Nat → Nat} {T V : Nat → Nat → Int} {ai : Nat → Nat → Bool} (hb : BkOK T) (hs : SI T V) (h : HI H V) (hd : HD H T V) {i x : Nat} (hx : x < 10) (hn : ∀ k, ai k (H x) = false ∨ T 0 0 ≤ (H x : Int)) : ∀ k : Nat, bi (pD T V ai k 8 i) x = bi (V 8 i) x := by
  intro k
  induction k with
  | zero => rfl
  | succ k ih =>
    simp only [pD]
    rw [dayV_nb hb (SI_pD hb hs k) (HI_pD hb hs h hd k) (HD_pD hd k) hx (hn k), ih]
/-- two worlds that are the same as to cushion u -/
def Sp (T : Nat → Nat → Int) (u : Nat) (H : Nat → Nat) (A B : Nat → Nat → Int) : Prop := A 0 0 = B 0 0 ∧ (∀ c, A 1 c = B 1 c) ∧ (∀ j, A 5 j = B 5 j) ∧ A 6 u = B 6 u ∧ (∀ p, p < 8 → A 7 (u * 8 + p) = B 7 (u * 8 + p)) ∧ (∀ i x, x < 10 → H x = u → bi (A 8 i) x = bi (B 8 i) x)
theorem Sp_lay {T A B : Nat → Nat → Int} {u c : Nat} {H : Nat → Nat} (h : Sp T u H A B) (hs : 0 ≤ A 6 u ∧ A 6 u ≤ 8) : Sp T u H (layV A u c) (layV B u c) := by
  obtain ⟨s0, s1, s5, s6, s7, s8⟩ := h
  by_cases h8 : A 6 u < 8
  · have h8' : B 6 u < 8 := by omega
    refine ⟨?_, fun c => ?_, fun j => ?_, ?_, fun p hp => ?_, fun i x hx hh => ?_⟩
    · simp only [layV, if_pos h8, if_pos h8']; simpa using s0
    · simp only [layV, if_pos h8, if_pos h8']; simpa using s1 c
    · simp only [layV, if_pos h8, if_pos h8']; simpa using s5 j
    · simp only [layV, if_pos h8, if_pos h8']; simp; omega
    · simp only [layV, if_pos h8, if_pos h8', s6]; simp; rw [s7 p hp]
    · simp only [layV, if_pos h8, if_pos h8']; simpa using s8 i x hx hh
  · have h8' : ¬ B 6 u < 8 := by omega
    refine ⟨?_, fun c => ?_, fun j => ?_, ?_, fun p hp => ?_, fun i x hx hh => ?_⟩
    · simp only [layV, if_neg h8, if_neg h8']; simpa using s0
    · simp only [layV, if_neg h8, if_neg h8']; simpa using s1 c
    · simp only [layV, if_neg h8, if_neg h8']; simpa using s5 j
    · simp only [layV, if_neg h8, if_neg h8']; simp
    · simp only [layV, if_neg h8, if_neg h8']
      simp only [if_neg (show ¬ (7 : Nat) = 4 by omega), if_neg (show ¬ (7 : Nat) = 6 by omega), if_pos]
      by_cases q : u * 8 + p = u * 8 + 7
      · rw [if_pos q, if_pos q]
      · rw [if_neg q, if_neg q, if_pos (by omega), if_pos (by omega)]
        exact s7 (p + 1) (by omega)
    · simp only [layV, if_neg h8, if_neg h8']; simpa using s8 i x hx hh
theorem Sp_if {P : Prop} [Decidable P] {T A B : Nat → Nat → Int} {u c : Nat} {H : Nat → Nat} (h : Sp T u H A B) (hs : 0 ≤ A 6 u ∧ A 6 u ≤ 8) : Sp T u H (if P then A else layV A u c) (if P then B else layV B u c) := by
  split
  · exact h
  · exact Sp_lay h hs
/-- places of cushion u are kept while a case is heard before another cushion's judge -/
theorem hear_oth {T V : Nat → Nat → Int} {mo : Int} {fr : Bool} {c u : Nat} (hs : SI T V) (hu' : (V 5 (V 1 c).toNat).toNat < 5) (hn : (V 5 (V 1 c).toNat).toNat ≠ u) : hearV T V mo fr c 6 u = V 6 u ∧ ∀ p, p < 8 → hearV T V mo fr c 7 (u * 8 + p) = V 7 (u * 8 + p) := by
  obtain ⟨th, sd, e⟩ := hearV_ex T V mo fr c
  have i6 := hs.2.2.1 _ hu'
  rw [e]
  split
  · exact ⟨by simp, fun p hp => by simp⟩
  · obtain ⟨w, hw⟩ : ∃ w, w = (V 5 (V 1 c).toNat).toNat := ⟨_, rfl⟩
    rw [← hw] at i6 hn ⊢
    by_cases h8 : V 6 w < 8
    · refine ⟨by simp [layV, h8, Ne.symm hn], fun p hp => ?_⟩
      simp only [layV]
      simp [h8]
      intro; omega
    · refine ⟨by simp [layV, h8, Ne.symm hn], fun p hp => ?_⟩
      simp only [layV]
      simp [h8]
      rw [if_neg (by omega), if_neg (by omega)]
theorem Sp_tr {T A B A' B' : Nat → Nat → Int} {u : Nat} {H : Nat → Nat} (h : Sp T u H A B) (a : ∀ f i, (f = 0 ∨ f = 1 ∨ f = 5 ∨ f = 8) → A' f i = A f i) (b : ∀ f i, (f = 0 ∨ f = 1 ∨ f = 5 ∨ f = 8) → B' f i = B f i) (a6 : A' 6 u = A 6 u) (b6 : B' 6 u = B 6 u) (a7 : ∀ p, p < 8 → A' 7 (u * 8 + p) = A 7 (u * 8 + p)) (b7 : ∀ p, p < 8 → B' 7 (u * 8 + p) = B 7 (u * 8 + p)) : Sp T u H A' B' := by
  obtain ⟨s0, s1, s5, s6, s7, s8⟩ := h
  refine ⟨by rw [a 0 _ (by omega), b 0 _ (by omega)]; exact s0, fun c => by rw [a 1 _ (by omega), b 1 _ (by omega)]; exact s1 c, fun j => by rw [a 5 _ (by omega), b 5 _ (by omega)]; exact s5 j, by rw [a6, b6]; exact s6, fun p hp => by rw [a7 p hp, b7 p hp]; exact s7 p hp, fun i x hx hh => by rw [a 8 _ (by omega), b 8 _ (by omega)]; exact s8 i x hx hh⟩
theorem Sp_hear {T A B : Nat → Nat → Int} {u : Nat} {H : Nat → Nat} (hb : BkOK T) (ha : SI T A) (hB : SI T B) (h : Sp T u H A B) {mo : Int} {fr : Bool} {c : Nat} (hc : (c : Int) < T 0 1) : Sp T u H (hearV T A mo fr c) (hearV T B mo fr c) := by
  have hJ := hb.1
  have i1 := ha.1 c hc
  have i5 := ha.2.1 (A 1 c).toNat (by omega)
  have e1 : B 1 c = A 1 c := (h.2.1 c).symm
  have e5 : B 5 (A 1 c).toNat = A 5 (A 1 c).toNat := (h.2.2.1 _).symm
  by_cases q : (A 5 (A 1 c).toNat).toNat = u
  · have e6 : B 6 u = A 6 u := h.2.2.2.1.symm
    have e0 : B 0 0 = A 0 0 := h.1.symm
    have i6 := ha.2.2.1 u (by omega)
    simp only [hearV, e1, e5, q, e6, e0]
    refine Sp_if (Sp_tr h (fun f i p => ?_) (fun f i p => ?_) ?_ ?_ (fun p hp => ?_) (fun p hp => ?_)) ?_
    · rw [if_neg (by omega), if_neg (by omega)]
    · rw [if_neg (by omega), if_neg (by omega)]
    · simp
    · simp
    · simp
    · simp
    · simpa using i6
  · have oa := hear_oth (mo := mo) (fr := fr) ha (by omega) q
    have ob := hear_oth (T := T) (V := B) (mo := mo) (fr := fr) (c := c) (u := u) hB (by rw [e1, e5]; omega) (by rw [e1, e5]; exact q)
    exact Sp_tr h (fun f i p => hearV_at (by omega) (by omega) (by omega) (by omega) (by omega)) (fun f i p => hearV_at (by omega) (by omega) (by omega) (by omega) (by omega)) oa.1 ob.1 oa.2 ob.2
theorem Sp_hears {T A B : Nat → Nat → Int} {u : Nat} {H : Nat → Nat} (hb : BkOK T) (ha : SI T A) (hB : SI T B) (h : Sp T u H A B) {mo df : Int} {fr : Bool} : ∀ c : Nat, (c : Int) ≤ T 0 1 → Sp T u H (hearsV T A mo df fr c) (hearsV T B mo df fr c) := by
  intro c
  induction c with
  | zero => intro _; exact h
  | succ c ih =>
    intro hc
    have ih := ih (by omega)
    simp only [hearsV]
    rw [← h.1, ← ih.2.1 c]
    split
    · exact Sp_hear hb (SI_hears hb ha c (by omega)) (SI_hears hb hB c (by omega)) ih (by omega)
    · exact ih
theorem airN_s8 {T V : Nat → Nat → Int} {u m i : Nat} : airN T V u (m + 1) 8 i = if (i : Int) < T 0 2 ∧ bi (T 9 i) (V 0 0 % 7).toNat = true ∧ (((V 6 u).toNat - 1 - m : Nat) : Int) ≤ T 10 i then oor (airN T V u m 8 i) (oshl 1 ((V 7 (u * 8 + ((V 6 u).toNat - 1 - m))).toNat : Int)) else airN T V u m 8 i := by
  simp only [airN, stepA, tellV]
  rw [if_neg (by omega), if_pos trivial, airN_other (f := 7) (by omega) (by omega), airN_other (f := 0) (by omega) (by omega)]
theorem dayV_ne {T V : Nat → Nat → Int} {mo bt df : Int} {fr : Bool} {ai : Nat → Bool} {f i : Nat} (h : ¬ (f = 0 ∧ i = 0)) : dayV T V mo bt df fr ai f i = (if V 0 0 % 7 = 0 then airJ T (hearsV T V mo df fr (T 0 1).toNat) mo bt ai (T 0 0).toNat else hearsV T V mo df fr (T 0 1).toNat) f i := by
  simp only [dayV]
  rw [if_neg h]
theorem Sp_airN {T A B : Nat → Nat → Int} {u : Nat} {H : Nat → Nat} (h : Sp T u H A B) (hs : A 6 u ≤ 8) {i x : Nat} (hx : x < 10) (hh : H x = u) : ∀ m : Nat, (m : Int) ≤ A 6 u → bi (airN T A u m 8 i) x = bi (airN T B u m 8 i) x := by
  intro m
  induction m with
  | zero => intro _; exact h.2.2.2.2.2 i x hx hh
  | succ m ih =>
    intro hm
    have ih := ih (by omega)
    have e6 : B 6 u = A 6 u := h.2.2.2.1.symm
    have e7 : B 7 (u * 8 + ((A 6 u).toNat - 1 - m)) = A 7 (u * 8 + ((A 6 u).toNat - 1 - m)) := (h.2.2.2.2.1 _ (by omega)).symm
    rw [airN_s8, airN_s8, e6, e7, h.1]
    split
    · rw [bi_or, bi_or, ih]
    · exact ih
theorem Sp_airJ {T A B : Nat → Nat → Int} {u : Nat} {H : Nat → Nat} (hb : BkOK T) (ha : SI T A) (hA : HI H A) (h : Sp T u H A B) {mo bt : Int} {ai ai' : Nat → Bool} (hu : ai u = ai' u) (ho : ∀ v, v ≠ u → ai' v = false) : ∀ j : Nat, (j : Int) ≤ T 0 0 → Sp T u H (airJ T A mo bt ai j) (airJ T B mo bt ai' j) := by
  intro j
  induction j with
  | zero => intro _; exact h
  | succ j ih =>
    intro hj
    have ih := ih (by omega)
    have hJ := hb.1
    have i5 := ha.2.1 j (by omega)
    have e5 : B 5 j = A 5 j := (h.2.2.1 j).symm
    have sj := SI_airJ hb ha (mo := mo) (bt := bt) (ai := ai) j (by omega)
    have i6 := sj.2.2.1 (A 5 j).toNat (by omega)
    have hj' := HI_airJ hA (T := T) (mo := mo) (bt := bt) (ai := ai) j
    simp only [airJ, e5]
    by_cases q : (A 5 j).toNat = u
    · rw [q] at i6 ⊢
      rw [hu]
      split
      · rw [← outN_eq ih.2.2.2.1 ih.1]
        obtain ⟨m, hm⟩ : ∃ m, m = outN T (airJ T A mo bt ai j) mo bt j u := ⟨_, rfl⟩
        have hmle : (m : Int) ≤ airJ T A mo bt ai j 6 u := by rw [hm]; exact outN_le i6.1
        rw [← hm]
        obtain ⟨s0, s1, s5, s6, s7, s8⟩ := ih
        refine ⟨?_, fun c => ?_, fun j => ?_, ?_, fun p hp => ?_, fun i x hx hh => ?_⟩
        · rw [airU_at (by omega) (by omega) (by omega), airU_at (by omega) (by omega) (by omega)]; exact s0
        · rw [airU_at (by omega) (by omega) (by omega), airU_at (by omega) (by omega) (by omega)]; exact s1 c
        · rw [airU_at (by omega) (by omega) (by omega), airU_at (by omega) (by omega) (by omega)]; exact s5 _
        · simp only [airU, if_true]; rw [s6]
        · rw [airU_at (by omega) (by omega) (by omega), airU_at (by omega) (by omega) (by omega)]; exact s7 p hp
        · simp only [airU]
          rw [if_neg (by omega), if_neg (by omega)]
          exact Sp_airN ⟨s0, s1, s5, s6, s7, s8⟩ i6.2 hx hh m hmle
      · exact ih
    · rw [ho _ q, if_neg (show ¬ (false = true) by decide)]
      split
      · refine ⟨?_, fun c => ?_, fun j => ?_, ?_, fun p hp => ?_, fun i x hx hh => ?_⟩
        · rw [airU_at (by omega) (by omega) (by omega)]; exact ih.1
        · rw [airU_at (by omega) (by omega) (by omega)]; exact ih.2.1 c
        · rw [airU_at (by omega) (by omega) (by omega)]; exact ih.2.2.1 _
        · simp only [airU, if_true]; rw [if_neg (Ne.symm q)]; exact ih.2.2.2.1
        · rw [airU_at (by omega) (by omega) (by omega)]; exact ih.2.2.2.2.1 p hp
        · simp only [airU]
          rw [if_neg (by omega), airN_nb hb.2.1.2 sj hj' (by omega) hx (by rw [hh]; exact Ne.symm q) _ (outN_le i6.1)]
          exact ih.2.2.2.2.2 i x hx hh
      · exact ih
theorem Sp_day {T A B : Nat → Nat → Int} {u : Nat} {H : Nat → Nat} (hb : BkOK T) (ha : SI T A) (hB : SI T B) (hA : HI H A) (hd : HD H T A) (h : Sp T u H A B) {mo bt df : Int} {fr : Bool} {ai ai' : Nat → Bool} (hu : A 0 0 % 7 = 0 → ai u = ai' u) (ho : A 0 0 % 7 = 0 → ∀ v, v ≠ u → ai' v = false) : Sp T u H (dayV T A mo bt df fr ai) (dayV T B mo bt df fr ai') := by
  have hC := hb.2.1
  have hJ := hb.1
  have hh := Sp_hears hb ha hB h (mo := mo) (df := df) (fr := fr) (T 0 1).toNat (by omega)
  have key : Sp T u H (if A 0 0 % 7 = 0 then airJ T (hearsV T A mo df fr (T 0 1).toNat) mo bt ai (T 0 0).toNat else hearsV T A mo df fr (T 0 1).toNat) (if A 0 0 % 7 = 0 then airJ T (hearsV T B mo df fr (T 0 1).toNat) mo bt ai' (T 0 0).toNat else hearsV T B mo df fr (T 0 1).toNat) := by
    split
    · rename_i q
      exact Sp_airJ hb (SI_hears hb ha _ (by omega)) (HI_hears hb ha hA hd _ (by omega)) hh (hu q) (ho q) _ (by omega)
    · exact hh
  obtain ⟨s0, s1, s5, s6, s7, s8⟩ := key
  refine ⟨?_, fun c => ?_, fun j => ?_, ?_, fun p hp => ?_, fun i x hx hh => ?_⟩
  · simp [dayV, h.1]
  · rw [dayV_ne (by omega), dayV_ne (by omega), ← h.1]; exact s1 c
  · rw [dayV_ne (by omega), dayV_ne (by omega), ← h.1]; exact s5 j
  · rw [dayV_ne (by omega), dayV_ne (by omega), ← h.1]; exact s6
  · rw [dayV_ne (by omega), dayV_ne (by omega), ← h.1]; exact s7 p hp
  · rw [dayV_ne (by omega), dayV_ne (by omega), ← h.1]; exact s8 i x hx hh
theorem Sp_pD {T V : Nat → Nat → Int} {u : Nat} {H : Nat → Nat} (hb : BkOK T) (hs : SI T V) (h : HI H V) (hd : HD H T V) {ai ai' : Nat → Nat → Bool} (hu : ∀ k : Nat, (V 0 0 + (k : Int)) % 7 = 0 → ai k u = ai' k u) (ho : ∀ k : Nat, (V 0 0 + (k : Int)) % 7 = 0 → ∀ v, v ≠ u → ai' k v = false) : ∀ k : Nat, Sp T u H (pD T V ai k) (pD T V ai' k) := by
  intro k
  induction k with
  | zero => exact ⟨rfl, fun _ => rfl, fun _ => rfl, rfl, fun _ _ => rfl, fun _ _ _ _ => rfl⟩
  | succ k ih =>
    simp only [pD]
    rw [← ih.1]
    exact Sp_day hb (SI_pD hb hs k) (SI_pD hb hs k) (HI_pD hb hs h hd k) (HD_pD hd k) ih (fun q => hu k (by rw [pD_day] at q; exact q)) (fun q => ho k (by rw [pD_day] at q; exact q))
