/-! A DAY: the class's side -/
def BkOK (T : Nat → Nat → Int) : Prop := (0 ≤ T 0 0 ∧ T 0 0 ≤ 5) ∧ (0 ≤ T 0 1 ∧ T 0 1 ≤ 10) ∧ (0 ≤ T 0 2 ∧ T 0 2 ≤ 5) ∧ (0 ≤ T 0 3 ∧ T 0 3 ≤ 8) ∧ (0 ≤ T 0 5 ∧ T 0 5 ≤ 9) ∧
  (∀ j : Nat, (j : Int) < T 0 0 → (0 ≤ T 2 j ∧ T 2 j ≤ 99) ∧ (0 ≤ T 3 j ∧ T 3 j ≤ 9)) ∧
  (∀ c : Nat, (c : Int) < T 0 1 → (0 ≤ T 5 c ∧ T 5 c < T 0 0) ∧ (0 ≤ T 6 c ∧ T 6 c ≤ 99) ∧ (0 ≤ T 7 c ∧ T 7 c ≤ 99)) ∧
  (∀ k : Nat, (k : Int) < T 0 2 → (0 ≤ T 9 k ∧ T 9 k ≤ 127) ∧ (0 ≤ T 10 k ∧ T 10 k ≤ 9)) ∧
  (∀ d : Nat, (d : Int) < T 0 3 → 0 ≤ T 11 d ∧ T 11 d ≤ 9) ∧
  (∀ w : Nat, w < 3 → 0 ≤ T 14 w ∧ T 14 w ≤ T 15 w ∧ T 15 w ≤ 64)
def SI (T V : Nat → Nat → Int) : Prop :=
  (∀ c : Nat, (c : Int) < T 0 1 → 0 ≤ V 1 c ∧ V 1 c < T 0 0) ∧ (∀ j : Nat, (j : Int) < T 0 0 → 0 ≤ V 5 j ∧ V 5 j < T 0 0) ∧
  (∀ u : Nat, u < 5 → 0 ≤ V 6 u ∧ V 6 u ≤ 8) ∧ (∀ u p : Nat, u < 5 → (p : Int) < V 6 u → 0 ≤ V 7 (u * 8 + p) ∧ V 7 (u * 8 + p) < T 0 1) ∧ 0 ≤ V 0 0
theorem lw_bk {σ : Mm} (h : BkOK (vw σ 5)) : LwOK σ := fun w hw => by
  have := h.2.2.2.2.2.2.2.2.2 w hw
  exact ⟨this.1, this.2.2⟩
theorem SI_lay {T V : Nat → Nat → Int} (h : SI T V) {u c : Nat} (hu : u < 5) (hc : (c : Int) < T 0 1) : SI T (layV V u c) := by
  obtain ⟨h1, h2, h3, h4, h5⟩ := h
  have h6 := h3 u hu
  by_cases h8 : V 6 u < 8
  · refine ⟨fun x hx => ?_, fun j hj => ?_, fun x hx => ?_, fun x p hx hp => ?_, ?_⟩
    · simp only [layV, if_pos h8]; simpa using h1 x hx
    · simp only [layV, if_pos h8]; simpa using h2 j hj
    · simp only [layV, if_pos h8]
      have := h3 x hx
      by_cases hxu : x = u
      · simp [hxu]; omega
      · simpa [hxu] using this
    · simp only [layV, if_pos h8] at hp ⊢
      have h3x := h3 x hx
      simp only [if_neg (show ¬ (6 : Nat) = 4 by omega), if_pos, if_neg (show ¬ (7 : Nat) = 4 by omega), if_neg (show ¬ (7 : Nat) = 6 by omega)] at hp ⊢
      by_cases hi : x * 8 + p = u * 8 + (V 6 u).toNat
      · rw [if_pos hi]; omega
      · rw [if_neg hi]
        refine h4 x p hx ?_
        split at hp
        · rename_i hxu; subst hxu; omega
        · exact hp
    · simp only [layV, if_pos h8]; simpa using h5
  · refine ⟨fun x hx => ?_, fun j hj => ?_, fun x hx => ?_, fun x p hx hp => ?_, ?_⟩
    · simp only [layV, if_neg h8]; simpa using h1 x hx
    · simp only [layV, if_neg h8]; simpa using h2 j hj
    · simp only [layV, if_neg h8]
      have := h3 x hx
      by_cases hxu : x = u
      · simp [hxu]
      · simpa [hxu] using this
    · simp only [layV, if_neg h8] at hp ⊢
      have h3x := h3 x hx
      simp only [if_neg (show ¬ (6 : Nat) = 4 by omega), if_pos, if_neg (show ¬ (7 : Nat) = 4 by omega), if_neg (show ¬ (7 : Nat) = 6 by omega)] at hp ⊢
      have hp8 : p < 8 := by
        split at hp
        · omega
        · omega
      split
      · omega
      · split
        · rename_i q1 q2
          have hxu : x = u := by omega
          subst hxu
          have := h4 x (p + 1) hx (by omega)
          exact this
        · refine h4 x p hx ?_
          split at hp
          · omega
          · exact hp
    · simp only [layV, if_neg h8]; simpa using h5
theorem hearV_ex (T V : Nat → Nat → Int) (mo : Int) (fr : Bool) (c : Nat) : ∃ th sd : Bool, hearV T V mo fr c = if sd = th then (fun f i => if f = 2 ∧ i = c then b2i th else if f = 3 ∧ i = c then b2i sd else V f i) else layV (fun f i => if f = 2 ∧ i = c then b2i th else if f = 3 ∧ i = c then b2i sd else V f i) (V 5 (V 1 c).toNat).toNat c := ⟨_, _, rfl⟩
theorem hearV_at {T V : Nat → Nat → Int} {mo : Int} {fr : Bool} {c f i : Nat} (h2 : f ≠ 2) (h3 : f ≠ 3) (h4 : f ≠ 4) (h6 : f ≠ 6) (h7 : f ≠ 7) : hearV T V mo fr c f i = V f i := by
  obtain ⟨th, sd, e⟩ := hearV_ex T V mo fr c
  rw [e]
  split
  · simp [h2, h3]
  · simp [layV, h4, h6, h7, h2, h3]
theorem SI_hear {T V : Nat → Nat → Int} (hb : BkOK T) (h : SI T V) {mo : Int} {fr : Bool} {c : Nat} (hc : (c : Int) < T 0 1) : SI T (hearV T V mo fr c) := by
  have hj := h.1 c hc
  have hu := h.2.1 (V 1 c).toNat (by omega)
  have hJ := hb.1
  have key : ∀ x y : Int, SI T (fun f i => if f = 2 ∧ i = c then x else if f = 3 ∧ i = c then y else V f i) := fun x y => by
    obtain ⟨h1, h2, h3, h4, h5⟩ := h
    exact ⟨fun c hc => by simpa using h1 c hc, fun c hc => by simpa using h2 c hc, fun c hc => by simpa using h3 c hc, fun u p hu hp => by simpa using h4 u p hu (by simpa using hp), by simpa using h5⟩
  obtain ⟨th, sd, e⟩ := hearV_ex T V mo fr c
  rw [e]
  split
  · exact key _ _
  · exact SI_lay (key _ _) (by omega) hc
theorem airU_at {T V : Nat → Nat → Int} {u m f i : Nat} (h4 : f ≠ 4) (h6 : f ≠ 6) (h8 : f ≠ 8) : airU T V u m f i = V f i := by
  simp only [airU, if_neg h6]; rw [airN_other h4 h8]
theorem outN_le {T V : Nat → Nat → Int} {mo bt : Int} {j u : Nat} (h : 0 ≤ V 6 u) : (outN T V mo bt j u : Int) ≤ V 6 u := by
  have := flyS_in T (nmF (T 2 j) (T 3 j) (V 6 u) mo (V 0 0)) bt
  simp only [outN]
  split <;> omega
theorem SI_air {T V : Nat → Nat → Int} (h : SI T V) {u m : Nat} (hm : (m : Int) ≤ V 6 u) : SI T (airU T V u m) := by
  obtain ⟨h1, h2, h3, h4, h5⟩ := h
  refine ⟨fun c hc => by rw [airU_at (by omega) (by omega) (by omega)]; exact h1 c hc, fun c hc => by rw [airU_at (by omega) (by omega) (by omega)]; exact h2 c hc, fun x hx => ?_, fun x p hx hp => ?_, by rw [airU_at (by omega) (by omega) (by omega)]; exact h5⟩
  · have := h3 x hx
    simp only [airU, if_true]
    split
    · rename_i hxu; subst hxu; omega
    · exact this
  · rw [airU_at (by omega) (by omega) (by omega)]
    refine h4 x p hx ?_
    simp only [airU, if_true] at hp
    split at hp
    · rename_i hxu; subst hxu; omega
    · exact hp
/-- damp of a day as told -/
def moT (T : Nat → Nat → Int) (d : Int) : Int := if 0 < T 0 3 then T 11 (d % T 0 3).toNat else 0
def moD (T : Nat → Nat → Int) (dm d : Int) : Int := if dm = -1 then moT T d else dm
theorem moT_in {T : Nat → Nat → Int} (h : BkOK T) {d : Int} : 0 ≤ moT T d ∧ moT T d ≤ 9 := by
  have h3 := h.2.2.2.1
  unfold moT
  split
  · have h1 := Int.emod_nonneg d (show T 0 3 ≠ 0 by omega)
    have h2 := Int.emod_lt_of_pos d (show 0 < T 0 3 by omega)
    exact h.2.2.2.2.2.2.2.2.1 _ (by omega)
  · omega
def hearsV (T V : Nat → Nat → Int) (mo df : Int) (fr : Bool) : Nat → (Nat → Nat → Int)
  | 0 => V
  | c + 1 => if T 6 c = V 0 0 ∧ hearsV T V mo df fr c 1 c ≠ df then hearV T (hearsV T V mo df fr c) mo fr c else hearsV T V mo df fr c
/-- the cushions of the first j judges aired; ai: which cushions are -/
def airJ (T V : Nat → Nat → Int) (mo bt : Int) (ai : Nat → Bool) : Nat → (Nat → Nat → Int)
  | 0 => V
  | j + 1 => if ai (V 5 j).toNat then airU T (airJ T V mo bt ai j) (V 5 j).toNat (outN T (airJ T V mo bt ai j) mo bt j (V 5 j).toNat) else airJ T V mo bt ai j
def dayV (T V : Nat → Nat → Int) (mo bt df : Int) (fr : Bool) (ai : Nat → Bool) : Nat → Nat → Int :=
  let U := hearsV T V mo df fr (T 0 1).toNat
  let A := if V 0 0 % 7 = 0 then airJ T U mo bt ai (T 0 0).toNat else U
  fun f i => if f = 0 ∧ i = 0 then V 0 0 + 1 else A f i
theorem hearsV_at {T V : Nat → Nat → Int} {mo df : Int} {fr : Bool} {f i : Nat} (h2 : f ≠ 2) (h3 : f ≠ 3) (h4 : f ≠ 4) (h6 : f ≠ 6) (h7 : f ≠ 7) : ∀ c, hearsV T V mo df fr c f i = V f i := by
  intro c
  induction c with
  | zero => rfl
  | succ c ih =>
    simp only [hearsV]
    split
    · rw [hearV_at h2 h3 h4 h6 h7, ih]
    · exact ih
theorem SI_hears {T V : Nat → Nat → Int} (hb : BkOK T) (h : SI T V) {mo df : Int} {fr : Bool} : ∀ c : Nat, (c : Int) ≤ T 0 1 → SI T (hearsV T V mo df fr c) := by
  intro c
  induction c with
  | zero => intro _; exact h
  | succ c ih =>
    intro hc
    simp only [hearsV]
    split
    · exact SI_hear hb (ih (by omega)) (by omega)
    · exact ih (by omega)
theorem airJ_at {T V : Nat → Nat → Int} {mo bt : Int} {ai : Nat → Bool} {f i : Nat} (h4 : f ≠ 4) (h6 : f ≠ 6) (h8 : f ≠ 8) : ∀ j, airJ T V mo bt ai j f i = V f i := by
  intro j
  induction j with
  | zero => rfl
  | succ j ih =>
    simp only [airJ]
    split
    · rw [airU_at h4 h6 h8, ih]
    · exact ih
theorem SI_airJ {T V : Nat → Nat → Int} (hb : BkOK T) (h : SI T V) {mo bt : Int} {ai : Nat → Bool} : ∀ j : Nat, (j : Int) ≤ T 0 0 → SI T (airJ T V mo bt ai j) := by
  intro j
  induction j with
  | zero => intro _; exact h
  | succ j ih =>
    intro hj
    have ih := ih (by omega)
    simp only [airJ]
    split
    · have hu := h.2.1 j (by omega)
      have := ih.2.2.1 (V 5 j).toNat (by have := hb.1; omega)
      exact SI_air ih (outN_le this.1)
    · exact ih
theorem SI_day {T V : Nat → Nat → Int} (hb : BkOK T) (h : SI T V) {mo bt df : Int} {fr : Bool} {ai : Nat → Bool} : SI T (dayV T V mo bt df fr ai) := by
  have hU := SI_hears hb h (mo := mo) (df := df) (fr := fr) (T 0 1).toNat (by have := hb.2.1; omega)
  have hA : SI T (if V 0 0 % 7 = 0 then airJ T (hearsV T V mo df fr (T 0 1).toNat) mo bt ai (T 0 0).toNat else hearsV T V mo df fr (T 0 1).toNat) := by
    split
    · exact SI_airJ hb hU _ (by have := hb.1; omega)
    · exact hU
  obtain ⟨h1, h2, h3, h4, h5⟩ := hA
  refine ⟨fun c hc => ?_, fun c hc => ?_, fun c hc => ?_, fun u p hu hp => ?_, ?_⟩
  · simp only [dayV, if_neg (show ¬ ((1 : Nat) = 0 ∧ c = 0) by omega)]; exact h1 c hc
  · simp only [dayV, if_neg (show ¬ ((5 : Nat) = 0 ∧ c = 0) by omega)]; exact h2 c hc
  · simp only [dayV, if_neg (show ¬ ((6 : Nat) = 0 ∧ c = 0) by omega)]; exact h3 c hc
  · simp only [dayV, if_neg (show ¬ ((7 : Nat) = 0 ∧ u * 8 + p = 0) by omega), if_neg (show ¬ ((6 : Nat) = 0 ∧ u = 0) by omega)] at hp ⊢; exact h4 u p hu hp
  · have := h.2.2.2.2
    simp [dayV]; omega
theorem v_moist {n : Nat}  (d : Int) {σ : Mm} {P : Int → Mm → Prop} (o1 : (0 : Int) < (gi σ 5 3) → (0 ≤ d ∧ 0 < (gi σ 5 3))) (o2 : (0 : Int) < (gi σ 5 3) → (0 ≤ (d % (gi σ 5 3)) ∧ (d % (gi σ 5 3)) < 8)) (l1 : (gi σ 5 3) ≤ (0 : Int) → P 0 σ) (l2 : (0 : Int) < (gi σ 5 3) → P (gi σ 16 (d % (gi σ 5 3)).toNat) σ) : Ci 3 [vr 5, vi d] (shF n) σ P :=
  show R 3 0 [some (vr 5), some (vi d)] [] (shF n) 0 0 σ (Qi (shF n) P) from wpK_R 12 [] (And.intro (fun q1 => And.intro ret0 ⟨rfl, _, rfl, (l1 q1)⟩) (fun q1 => (have k2 := (o1 (Int.not_le.mp q1)); And.intro k2 ((have k3 := (o2 (Int.not_le.mp q1)); And.intro k3 (And.intro ret0 ⟨rfl, _, rfl, (l2 (Int.not_le.mp q1))⟩))))))
theorem c_moist {n : Nat} {d : Int} {σ : Mm} {P : Int → Mm → Prop} (hd : 0 ≤ d) (h3 : gi σ 5 3 ≤ 8) (hP : P (moT (vw σ 5) d) σ) : Ci 3 [vr 5, vi d] (shF n) σ P := by
  have q1 : 0 < gi σ 5 3 → 0 ≤ d % gi σ 5 3 := fun h => Int.emod_nonneg d (by omega)
  have q2 : 0 < gi σ 5 3 → d % gi σ 5 3 < gi σ 5 3 := fun h => Int.emod_lt_of_pos d h
  refine v_moist d (by intro h; first | omega | (have := q1 h; have := q2 h; omega)) (by intro h; first | omega | (have := q1 h; have := q2 h; omega)) ?_ ?_
  · intro h; refine p_eq hP ?_; unfold moT; rw [if_neg (show ¬ 0 < vw σ 5 0 3 from by show ¬ 0 < gi σ 5 3; omega)]
  · intro h; refine p_eq hP ?_; unfold moT; rw [if_pos (show 0 < vw σ 5 0 3 from h)]; rfl
theorem v_kept_40 {n : Nat}  (u : Nat) {σ : Mm} {P : Int → Mm → Prop} (l1 : (oand (oshr (gi σ 40 1) (u : Int)) (1 : Int)) = (0 : Int) → P 0 σ) (l2 : (oand (oshr (gi σ 40 1) (u : Int)) (1 : Int)) ≠ (0 : Int) → P 1 σ) : Ci 84 [vr 40, vi (u : Int)] (shF n) σ P :=
  show R 84 0 [some (vr 40), some (vi (u : Int))] [] (shF n) 0 0 σ (Qi (shF n) P) from wpK_R 10 [] (And.intro (fun q1 => And.intro ret0 (And.intro (Or.inl rfl) ⟨rfl, _, rfl, (l1 q1)⟩)) (fun q1 => And.intro ret0 (And.intro (Or.inr rfl) ⟨rfl, _, rfl, (l2 q1)⟩)))
theorem c_kept_40 {n : Nat} {u : Int} {σ : Mm} {P : Int → Mm → Prop} (hu : 0 ≤ u ∧ u < 5) (hP : P (b2i (bi (gi σ 40 1) u.toNat)) σ) : Ci 84 [vr 40, vi u] (shF n) σ P := by
  obtain ⟨u, rfl⟩ := Int.eq_ofNat_of_zero_le hu.1
  rw [Int.toNat_natCast] at hP
  have hs := shr1 (n := u) (by omega) (gi σ 40 1)
  refine v_kept_40 u ?_ ?_
  all_goals (intro h; refine p_eq hP ?_; rw [hs] at h; revert h; cases bi (gi σ 40 1) u <;> simp [b2i])
theorem hear_pre_40 {τ : Mm} (hb : BkOK (vw τ 5)) (hs : SI (vw τ 5) (wv τ 40)) {c : Nat} (hc : (c : Int) < gi τ 5 1) : c < 10 ∧ (0 ≤ gi τ 41 c ∧ gi τ 41 c < 5) ∧ (0 ≤ gi τ 7 (gi τ 41 c).toNat ∧ gi τ 7 (gi τ 41 c).toNat ≤ 99) ∧ (0 ≤ gi τ 12 c ∧ gi τ 12 c ≤ 99) ∧ (0 ≤ gi τ 45 (gi τ 41 c).toNat ∧ gi τ 45 (gi τ 41 c).toNat < 5) ∧ (0 ≤ gi τ 46 (gi τ 45 (gi τ 41 c).toNat).toNat ∧ gi τ 46 (gi τ 45 (gi τ 41 c).toNat).toNat ≤ 8) ∧ (gi τ 46 (gi τ 45 (gi τ 41 c).toNat).toNat < 8 ∨ (0 ≤ gi τ 47 ((gi τ 45 (gi τ 41 c).toNat).toNat * 8) ∧ gi τ 47 ((gi τ 45 (gi τ 41 c).toNat).toNat * 8) < 10)) := by
  obtain ⟨s1, s2, s3, s4, s5⟩ := hs
  have hJ : 0 ≤ gi τ 5 0 ∧ gi τ 5 0 ≤ 5 := hb.1
  have hC : 0 ≤ gi τ 5 1 ∧ gi τ 5 1 ≤ 10 := hb.2.1
  have h1 := s1 c hc
  rw [wv_at (by omega)] at h1
  have h1 : 0 ≤ gi τ 41 c ∧ gi τ 41 c < gi τ 5 0 := h1
  have h2 := s2 (gi τ 41 c).toNat (by show _ < gi τ 5 0; omega)
  rw [wv_at (by omega)] at h2
  have h2 : 0 ≤ gi τ 45 (gi τ 41 c).toNat ∧ gi τ 45 (gi τ 41 c).toNat < gi τ 5 0 := h2
  have h3 := s3 (gi τ 45 (gi τ 41 c).toNat).toNat (by omega)
  rw [wv_at (by omega)] at h3
  have h3 : 0 ≤ gi τ 46 (gi τ 45 (gi τ 41 c).toNat).toNat ∧ gi τ 46 (gi τ 45 (gi τ 41 c).toNat).toNat ≤ 8 := h3
  have hb6 : (0 ≤ gi τ 7 (gi τ 41 c).toNat ∧ gi τ 7 (gi τ 41 c).toNat ≤ 99) := (hb.2.2.2.2.2.1 (gi τ 41 c).toNat (by show _ < gi τ 5 0; omega)).1
  have hb7 : (0 ≤ gi τ 12 c ∧ gi τ 12 c ≤ 99) := (hb.2.2.2.2.2.2.1 c hc).2.2
  refine ⟨by omega, by omega, hb6, hb7, by omega, h3, ?_⟩
  rcases Int.lt_or_le (gi τ 46 (gi τ 45 (gi τ 41 c).toNat).toNat) 8 with q | q
  · exact Or.inl q
  · have h4 := s4 (gi τ 45 (gi τ 41 c).toNat).toNat 0 (by omega) (by rw [wv_at (by omega)]; show ((0 : Nat) : Int) < gi τ 46 _; omega)
    rw [wv_at (by omega)] at h4
    have h4 : 0 ≤ gi τ 47 ((gi τ 45 (gi τ 41 c).toNat).toNat * 8) ∧ gi τ 47 ((gi τ 45 (gi τ 41 c).toNat).toNat * 8) < gi τ 5 1 := h4
    exact Or.inr (by omega)
theorem air_pre_40 {τ : Mm} (hb : BkOK (vw τ 5)) (hs : SI (vw τ 5) (wv τ 40)) {j : Nat} (hj : (j : Int) < gi τ 5 0) : (j < 5 ∧ (0 ≤ gi τ 7 j ∧ gi τ 7 j ≤ 99) ∧ gi τ 5 2 ≤ 5 ∧ (0 ≤ gi τ 45 j ∧ gi τ 45 j < 5) ∧ (0 ≤ gi τ 46 (gi τ 45 j).toNat ∧ gi τ 46 (gi τ 45 j).toNat ≤ 8)) ∧ (∀ p : Nat, (p : Int) < gi τ 46 (gi τ 45 j).toNat → 0 ≤ gi τ 47 ((gi τ 45 j).toNat * 8 + p) ∧ gi τ 47 ((gi τ 45 j).toNat * 8 + p) < 10) := by
  obtain ⟨s1, s2, s3, s4, s5⟩ := hs
  have hJ : 0 ≤ gi τ 5 0 ∧ gi τ 5 0 ≤ 5 := hb.1
  have hC : 0 ≤ gi τ 5 1 ∧ gi τ 5 1 ≤ 10 := hb.2.1
  have h2 := s2 j hj
  rw [wv_at (by omega)] at h2
  have h2 : 0 ≤ gi τ 45 j ∧ gi τ 45 j < gi τ 5 0 := h2
  have h3 := s3 (gi τ 45 j).toNat (by omega)
  rw [wv_at (by omega)] at h3
  have h3 : 0 ≤ gi τ 46 (gi τ 45 j).toNat ∧ gi τ 46 (gi τ 45 j).toNat ≤ 8 := h3
  refine ⟨⟨by omega, (hb.2.2.2.2.2.1 j hj).1, hb.2.2.1.2, by omega, h3⟩, fun p hp => ?_⟩
  have h4 := s4 (gi τ 45 j).toNat p (by omega) (by rw [wv_at (by omega)]; exact hp)
  rw [wv_at (by omega)] at h4
  have h4 : 0 ≤ gi τ 47 ((gi τ 45 j).toNat * 8 + p) ∧ gi τ 47 ((gi τ 45 j).toNat * 8 + p) < gi τ 5 1 := h4
  omega
theorem v_pd_40_0 {n : Nat}   {σ : Mm} {P : Mm → Prop} (o1 : (gi σ 70 2) = (-1 : Int) → 0 ≤ (gi σ 40 0)) (o2 : (gi σ 70 2) = (-1 : Int) → gi σ 5 3 ≤ 8) (l1 : (gi σ 70 2) ≠ (-1 : Int) → ∀ x2 : Int, x2 = gi σ 70 2 → R 74 29 [some (vr 70), some (vr 40), some (vi x2), some (vi 0)] [] (shF n) 0 0 σ (Qv (shF n) P)) (l2 : (gi σ 70 2) = (-1 : Int) → ∀ x3 : Int, x3 = moT (vw σ 5) (gi σ 40 0) → R 74 29 [some (vr 70), some (vr 40), some (vi x3), some (vi 0)] [] (shF n) 0 0 σ (Qv (shF n) P)) : Cv 74 [vr 70, vr 40] (shF n) σ P :=
  show R 74 0 [some (vr 70), some (vr 40), none, none] [] (shF n) 0 0 σ (Qv (shF n) P) from wpK_R 14 [29] (And.intro (fun q1 => (l1 q1 _ rfl)) (fun q1 => (c_moist  (o1 (Classical.not_not.mp q1)) (o2 (Classical.not_not.mp q1)) ((l2 (Classical.not_not.mp q1) _ rfl)))))
theorem v_pd_40_29 {n : Nat}  (mo : Int) (k : Nat) {σ : Mm} {P : Mm → Prop} (o1 : (k : Int) < (gi σ 5 1) → (0 ≤ (k : Int) ∧ (k : Int) < 10)) (o2 : (k : Int) < (gi σ 5 1) → (gi σ 11 k) ≠ (gi σ 40 0) → rg ((k : Int) + 1)) (o3 : (k : Int) < (gi σ 5 1) → (gi σ 11 k) = (gi σ 40 0) → (gi σ 41 k) = (gi σ 70 4) → rg ((k : Int) + 1)) (o4 : (k : Int) < (gi σ 5 1) → (gi σ 11 k) = (gi σ 40 0) → (gi σ 41 k) ≠ (gi σ 70 4) → LwOK σ) (o5 : (k : Int) < (gi σ 5 1) → (gi σ 11 k) = (gi σ 40 0) → (gi σ 41 k) ≠ (gi σ 70 4) → k < 10) (o6 : (k : Int) < (gi σ 5 1) → (gi σ 11 k) = (gi σ 40 0) → (gi σ 41 k) ≠ (gi σ 70 4) → (0 ≤ gi σ 41 k ∧ gi σ 41 k < 5)) (o7 : (k : Int) < (gi σ 5 1) → (gi σ 11 k) = (gi σ 40 0) → (gi σ 41 k) ≠ (gi σ 70 4) → (0 ≤ gi σ 7 (gi σ 41 k).toNat ∧ gi σ 7 (gi σ 41 k).toNat ≤ 99)) (o8 : (k : Int) < (gi σ 5 1) → (gi σ 11 k) = (gi σ 40 0) → (gi σ 41 k) ≠ (gi σ 70 4) → (0 ≤ gi σ 12 k ∧ gi σ 12 k ≤ 99)) (o9 : (k : Int) < (gi σ 5 1) → (gi σ 11 k) = (gi σ 40 0) → (gi σ 41 k) ≠ (gi σ 70 4) → (0 ≤ gi σ 45 (gi σ 41 k).toNat ∧ gi σ 45 (gi σ 41 k).toNat < 5)) (o10 : (k : Int) < (gi σ 5 1) → (gi σ 11 k) = (gi σ 40 0) → (gi σ 41 k) ≠ (gi σ 70 4) → (0 ≤ gi σ 46 (gi σ 45 (gi σ 41 k).toNat).toNat ∧ gi σ 46 (gi σ 45 (gi σ 41 k).toNat).toNat ≤ 8)) (o11 : (k : Int) < (gi σ 5 1) → (gi σ 11 k) = (gi σ 40 0) → (gi σ 41 k) ≠ (gi σ 70 4) → (gi σ 46 (gi σ 45 (gi σ 41 k).toNat).toNat < 8 ∨ (0 ≤ gi σ 47 ((gi σ 45 (gi σ 41 k).toNat).toNat * 8) ∧ gi σ 47 ((gi σ 45 (gi σ 41 k).toNat).toNat * 8) < 10))) (o12 : (k : Int) < (gi σ 5 1) → (gi σ 11 k) = (gi σ 40 0) → (gi σ 41 k) ≠ (gi σ 70 4) → ∀ s8 : Mm, Wg 40 σ s8 (hearV (vw σ 5) (wv σ 40) mo (decide (gi σ 70 5 ≠ 0)) k) → rg ((k : Int) + 1)) (l1 : (gi σ 5 1) ≤ (k : Int) → R 74 82 [some (vr 70), some (vr 40), some (vi mo), some (vi (k : Int))] [] (shF n) 0 0 σ (Qv (shF n) P)) (l2 : (k : Int) < (gi σ 5 1) → (gi σ 11 k) ≠ (gi σ 40 0) → R 74 29 [some (vr 70), some (vr 40), some (vi mo), some (vi ((k : Int) + 1))] [] (shF n) 0 0 σ (Qv (shF n) P)) (l3 : (k : Int) < (gi σ 5 1) → (gi σ 11 k) = (gi σ 40 0) → (gi σ 41 k) = (gi σ 70 4) → R 74 29 [some (vr 70), some (vr 40), some (vi mo), some (vi ((k : Int) + 1))] [] (shF n) 0 0 σ (Qv (shF n) P)) (l4 : (k : Int) < (gi σ 5 1) → (gi σ 11 k) = (gi σ 40 0) → (gi σ 41 k) ≠ (gi σ 70 4) → ∀ s8 : Mm, Wg 40 σ s8 (hearV (vw σ 5) (wv σ 40) mo (decide (gi σ 70 5 ≠ 0)) k) → R 74 29 [some (vr 70), some (vr 40), some (vi mo), some (vi ((k : Int) + 1))] [] (shF n) 0 0 s8 (Qv (shF n) P)) : R 74 29 [some (vr 70), some (vr 40), some (vi mo), some (vi (k : Int))] [] (shF n) 0 0 σ (Qv (shF n) P) :=
  wpK_R 28 [29, 82] (And.intro (fun q1 => (l1 q1)) (fun q1 => (have k2 := (o1 (Int.not_le.mp q1)); And.intro k2 (And.intro (fun q3 => (have k4 := (o2 (Int.not_le.mp q1) q3); And.intro k4 ((l2 (Int.not_le.mp q1) q3)))) (fun q3 => And.intro k2 (And.intro (fun q5 => (have k6 := (o3 (Int.not_le.mp q1) (Classical.not_not.mp q3) q5); And.intro k6 ((l3 (Int.not_le.mp q1) (Classical.not_not.mp q3) q5)))) (fun q5 => (c_hear_40 (c := k) (o4 (Int.not_le.mp q1) (Classical.not_not.mp q3) q5) (o5 (Int.not_le.mp q1) (Classical.not_not.mp q3) q5) (o6 (Int.not_le.mp q1) (Classical.not_not.mp q3) q5) (o7 (Int.not_le.mp q1) (Classical.not_not.mp q3) q5) (o8 (Int.not_le.mp q1) (Classical.not_not.mp q3) q5) (o9 (Int.not_le.mp q1) (Classical.not_not.mp q3) q5) (o10 (Int.not_le.mp q1) (Classical.not_not.mp q3) q5) (o11 (Int.not_le.mp q1) (Classical.not_not.mp q3) q5) (fun s8 h9 => (have k10 := (o12 (Int.not_le.mp q1) (Classical.not_not.mp q3) q5 s8 h9); And.intro k10 ((l4 (Int.not_le.mp q1) (Classical.not_not.mp q3) q5 s8 h9))))))))))))
theorem v_pd_40_82 {n : Nat}  (mo : Int) (z : Option PV) {σ : Mm} {P : Mm → Prop} (o1 : (0 ≤ (gi σ 40 0) ∧ 0 < (7 : Int))) (l1 : ((gi σ 40 0) % (7 : Int)) ≠ (0 : Int) → R 74 131 [some (vr 70), some (vr 40), some (vi mo), z] [] (shF n) 0 0 σ (Qv (shF n) P)) (l2 : ((gi σ 40 0) % (7 : Int)) = (0 : Int) → R 74 94 [some (vr 70), some (vr 40), some (vi mo), some (vi 0)] [] (shF n) 0 0 σ (Qv (shF n) P)) : R 74 82 [some (vr 70), some (vr 40), some (vi mo), z] [] (shF n) 0 0 σ (Qv (shF n) P) :=
  wpK_R 8 [94, 131] ((have k1 := (o1); And.intro k1 (And.intro (fun q2 => (l1 q2)) (fun q2 => (l2 (Classical.not_not.mp q2))))))
theorem v_pd_40_94 {n : Nat}  (mo : Int) (k : Nat) {σ : Mm} {P : Mm → Prop} (o1 : (k : Int) < (gi σ 5 0) → (0 ≤ (k : Int) ∧ (k : Int) < 5)) (o2 : (k : Int) < (gi σ 5 0) → (0 ≤ (gi σ 45 k) ∧ (gi σ 45 k) < 5)) (o3 : (k : Int) < (gi σ 5 0) → ∀ x3 : Int, x3 = b2i (bi (gi σ 40 1) (gi σ 45 k).toNat) → x3 ≠ (0 : Int) → rg ((k : Int) + 1)) (o4 : (k : Int) < (gi σ 5 0) → ∀ x3 : Int, x3 = b2i (bi (gi σ 40 1) (gi σ 45 k).toNat) → x3 = (0 : Int) → LwOK σ) (o5 : (k : Int) < (gi σ 5 0) → ∀ x3 : Int, x3 = b2i (bi (gi σ 40 1) (gi σ 45 k).toNat) → x3 = (0 : Int) → k < 5) (o6 : (k : Int) < (gi σ 5 0) → ∀ x3 : Int, x3 = b2i (bi (gi σ 40 1) (gi σ 45 k).toNat) → x3 = (0 : Int) → (0 ≤ gi σ 7 k ∧ gi σ 7 k ≤ 99)) (o7 : (k : Int) < (gi σ 5 0) → ∀ x3 : Int, x3 = b2i (bi (gi σ 40 1) (gi σ 45 k).toNat) → x3 = (0 : Int) → (0 ≤ mo ∧ mo ≤ 9)) (o8 : (k : Int) < (gi σ 5 0) → ∀ x3 : Int, x3 = b2i (bi (gi σ 40 1) (gi σ 45 k).toNat) → x3 = (0 : Int) → (0 ≤ gi σ 70 3 ∧ gi σ 70 3 ≤ 9)) (o9 : (k : Int) < (gi σ 5 0) → ∀ x3 : Int, x3 = b2i (bi (gi σ 40 1) (gi σ 45 k).toNat) → x3 = (0 : Int) → 0 ≤ gi σ 40 0) (o10 : (k : Int) < (gi σ 5 0) → ∀ x3 : Int, x3 = b2i (bi (gi σ 40 1) (gi σ 45 k).toNat) → x3 = (0 : Int) → gi σ 5 2 ≤ 5) (o11 : (k : Int) < (gi σ 5 0) → ∀ x3 : Int, x3 = b2i (bi (gi σ 40 1) (gi σ 45 k).toNat) → x3 = (0 : Int) → (0 ≤ gi σ 45 k ∧ gi σ 45 k < 5)) (o12 : (k : Int) < (gi σ 5 0) → ∀ x3 : Int, x3 = b2i (bi (gi σ 40 1) (gi σ 45 k).toNat) → x3 = (0 : Int) → (0 ≤ gi σ 46 (gi σ 45 k).toNat ∧ gi σ 46 (gi σ 45 k).toNat ≤ 8)) (o13 : (k : Int) < (gi σ 5 0) → ∀ x3 : Int, x3 = b2i (bi (gi σ 40 1) (gi σ 45 k).toNat) → x3 = (0 : Int) → (∀ p : Nat, (p : Int) < gi σ 46 (gi σ 45 k).toNat → 0 ≤ gi σ 47 ((gi σ 45 k).toNat * 8 + p) ∧ gi σ 47 ((gi σ 45 k).toNat * 8 + p) < 10)) (o14 : (k : Int) < (gi σ 5 0) → ∀ x3 : Int, x3 = b2i (bi (gi σ 40 1) (gi σ 45 k).toNat) → x3 = (0 : Int) → ∀ s7 : Mm, Wg 40 σ s7 (airU (vw σ 5) (wv σ 40) (gi σ 45 k).toNat (outN (vw σ 5) (wv σ 40) mo (gi σ 70 3) k (gi σ 45 k).toNat)) → rg ((k : Int) + 1)) (l1 : (gi σ 5 0) ≤ (k : Int) → R 74 131 [some (vr 70), some (vr 40), some (vi mo), some (vi (k : Int))] [] (shF n) 0 0 σ (Qv (shF n) P)) (l2 : (k : Int) < (gi σ 5 0) → ∀ x3 : Int, x3 = b2i (bi (gi σ 40 1) (gi σ 45 k).toNat) → x3 ≠ (0 : Int) → R 74 94 [some (vr 70), some (vr 40), some (vi mo), some (vi ((k : Int) + 1))] [] (shF n) 0 0 σ (Qv (shF n) P)) (l3 : (k : Int) < (gi σ 5 0) → ∀ x3 : Int, x3 = b2i (bi (gi σ 40 1) (gi σ 45 k).toNat) → x3 = (0 : Int) → ∀ s7 : Mm, Wg 40 σ s7 (airU (vw σ 5) (wv σ 40) (gi σ 45 k).toNat (outN (vw σ 5) (wv σ 40) mo (gi σ 70 3) k (gi σ 45 k).toNat)) → R 74 94 [some (vr 70), some (vr 40), some (vi mo), some (vi ((k : Int) + 1))] [] (shF n) 0 0 s7 (Qv (shF n) P)) : R 74 94 [some (vr 70), some (vr 40), some (vi mo), some (vi (k : Int))] [] (shF n) 0 0 σ (Qv (shF n) P) :=
  wpK_R 20 [94, 131] (And.intro (fun q1 => (l1 q1)) (fun q1 => (have k2 := (o1 (Int.not_le.mp q1)); And.intro k2 ((c_kept_40  (o2 (Int.not_le.mp q1)) (And.intro (fun q4 => (have k5 := (o3 (Int.not_le.mp q1) _ rfl q4); And.intro k5 ((l2 (Int.not_le.mp q1) _ rfl q4)))) (fun q4 => (c_air_40 (j := k) (o4 (Int.not_le.mp q1) _ rfl (Classical.not_not.mp q4)) (o5 (Int.not_le.mp q1) _ rfl (Classical.not_not.mp q4)) (o6 (Int.not_le.mp q1) _ rfl (Classical.not_not.mp q4)) (o7 (Int.not_le.mp q1) _ rfl (Classical.not_not.mp q4)) (o8 (Int.not_le.mp q1) _ rfl (Classical.not_not.mp q4)) (o9 (Int.not_le.mp q1) _ rfl (Classical.not_not.mp q4)) (o10 (Int.not_le.mp q1) _ rfl (Classical.not_not.mp q4)) (o11 (Int.not_le.mp q1) _ rfl (Classical.not_not.mp q4)) (o12 (Int.not_le.mp q1) _ rfl (Classical.not_not.mp q4)) (o13 (Int.not_le.mp q1) _ rfl (Classical.not_not.mp q4)) (fun s7 h8 => (have k9 := (o14 (Int.not_le.mp q1) _ rfl (Classical.not_not.mp q4) s7 h8); And.intro k9 ((l3 (Int.not_le.mp q1) _ rfl (Classical.not_not.mp q4) s7 h8))))))))))))
theorem v_pd_40_131 {n : Nat}  (mo : Int) (z : Option PV) {σ : Mm} {P : Mm → Prop} (o1 : rg ((gi σ 40 0) + 1)) (l1 : ∀ t2 : Mm, t2 = si σ 40 0 ((gi σ 40 0) + 1) → P t2) : R 74 131 [some (vr 70), some (vr 40), some (vi mo), z] [] (shF n) 0 0 σ (Qv (shF n) P) :=
  wpK_R 7 [] ((have k1 := (o1); And.intro k1 (And.intro ret0 ⟨rfl, rfl, (l1 _ rfl)⟩)))
theorem v_kept_49 {n : Nat}  (u : Nat) {σ : Mm} {P : Int → Mm → Prop} (l1 : (oand (oshr (gi σ 49 1) (u : Int)) (1 : Int)) = (0 : Int) → P 0 σ) (l2 : (oand (oshr (gi σ 49 1) (u : Int)) (1 : Int)) ≠ (0 : Int) → P 1 σ) : Ci 84 [vr 49, vi (u : Int)] (shF n) σ P :=
  show R 84 0 [some (vr 49), some (vi (u : Int))] [] (shF n) 0 0 σ (Qi (shF n) P) from wpK_R 10 [] (And.intro (fun q1 => And.intro ret0 (And.intro (Or.inl rfl) ⟨rfl, _, rfl, (l1 q1)⟩)) (fun q1 => And.intro ret0 (And.intro (Or.inr rfl) ⟨rfl, _, rfl, (l2 q1)⟩)))
theorem c_kept_49 {n : Nat} {u : Int} {σ : Mm} {P : Int → Mm → Prop} (hu : 0 ≤ u ∧ u < 5) (hP : P (b2i (bi (gi σ 49 1) u.toNat)) σ) : Ci 84 [vr 49, vi u] (shF n) σ P := by
  obtain ⟨u, rfl⟩ := Int.eq_ofNat_of_zero_le hu.1
  rw [Int.toNat_natCast] at hP
  have hs := shr1 (n := u) (by omega) (gi σ 49 1)
  refine v_kept_49 u ?_ ?_
  all_goals (intro h; refine p_eq hP ?_; rw [hs] at h; revert h; cases bi (gi σ 49 1) u <;> simp [b2i])
theorem hear_pre_49 {τ : Mm} (hb : BkOK (vw τ 5)) (hs : SI (vw τ 5) (wv τ 49)) {c : Nat} (hc : (c : Int) < gi τ 5 1) : c < 10 ∧ (0 ≤ gi τ 50 c ∧ gi τ 50 c < 5) ∧ (0 ≤ gi τ 7 (gi τ 50 c).toNat ∧ gi τ 7 (gi τ 50 c).toNat ≤ 99) ∧ (0 ≤ gi τ 12 c ∧ gi τ 12 c ≤ 99) ∧ (0 ≤ gi τ 54 (gi τ 50 c).toNat ∧ gi τ 54 (gi τ 50 c).toNat < 5) ∧ (0 ≤ gi τ 55 (gi τ 54 (gi τ 50 c).toNat).toNat ∧ gi τ 55 (gi τ 54 (gi τ 50 c).toNat).toNat ≤ 8) ∧ (gi τ 55 (gi τ 54 (gi τ 50 c).toNat).toNat < 8 ∨ (0 ≤ gi τ 56 ((gi τ 54 (gi τ 50 c).toNat).toNat * 8) ∧ gi τ 56 ((gi τ 54 (gi τ 50 c).toNat).toNat * 8) < 10)) := by
  obtain ⟨s1, s2, s3, s4, s5⟩ := hs
  have hJ : 0 ≤ gi τ 5 0 ∧ gi τ 5 0 ≤ 5 := hb.1
  have hC : 0 ≤ gi τ 5 1 ∧ gi τ 5 1 ≤ 10 := hb.2.1
  have h1 := s1 c hc
  rw [wv_at (by omega)] at h1
  have h1 : 0 ≤ gi τ 50 c ∧ gi τ 50 c < gi τ 5 0 := h1
  have h2 := s2 (gi τ 50 c).toNat (by show _ < gi τ 5 0; omega)
  rw [wv_at (by omega)] at h2
  have h2 : 0 ≤ gi τ 54 (gi τ 50 c).toNat ∧ gi τ 54 (gi τ 50 c).toNat < gi τ 5 0 := h2
  have h3 := s3 (gi τ 54 (gi τ 50 c).toNat).toNat (by omega)
  rw [wv_at (by omega)] at h3
  have h3 : 0 ≤ gi τ 55 (gi τ 54 (gi τ 50 c).toNat).toNat ∧ gi τ 55 (gi τ 54 (gi τ 50 c).toNat).toNat ≤ 8 := h3
  have hb6 : (0 ≤ gi τ 7 (gi τ 50 c).toNat ∧ gi τ 7 (gi τ 50 c).toNat ≤ 99) := (hb.2.2.2.2.2.1 (gi τ 50 c).toNat (by show _ < gi τ 5 0; omega)).1
  have hb7 : (0 ≤ gi τ 12 c ∧ gi τ 12 c ≤ 99) := (hb.2.2.2.2.2.2.1 c hc).2.2
  refine ⟨by omega, by omega, hb6, hb7, by omega, h3, ?_⟩
  rcases Int.lt_or_le (gi τ 55 (gi τ 54 (gi τ 50 c).toNat).toNat) 8 with q | q
  · exact Or.inl q
  · have h4 := s4 (gi τ 54 (gi τ 50 c).toNat).toNat 0 (by omega) (by rw [wv_at (by omega)]; show ((0 : Nat) : Int) < gi τ 55 _; omega)
    rw [wv_at (by omega)] at h4
    have h4 : 0 ≤ gi τ 56 ((gi τ 54 (gi τ 50 c).toNat).toNat * 8) ∧ gi τ 56 ((gi τ 54 (gi τ 50 c).toNat).toNat * 8) < gi τ 5 1 := h4
    exact Or.inr (by omega)
theorem air_pre_49 {τ : Mm} (hb : BkOK (vw τ 5)) (hs : SI (vw τ 5) (wv τ 49)) {j : Nat} (hj : (j : Int) < gi τ 5 0) : (j < 5 ∧ (0 ≤ gi τ 7 j ∧ gi τ 7 j ≤ 99) ∧ gi τ 5 2 ≤ 5 ∧ (0 ≤ gi τ 54 j ∧ gi τ 54 j < 5) ∧ (0 ≤ gi τ 55 (gi τ 54 j).toNat ∧ gi τ 55 (gi τ 54 j).toNat ≤ 8)) ∧ (∀ p : Nat, (p : Int) < gi τ 55 (gi τ 54 j).toNat → 0 ≤ gi τ 56 ((gi τ 54 j).toNat * 8 + p) ∧ gi τ 56 ((gi τ 54 j).toNat * 8 + p) < 10) := by
  obtain ⟨s1, s2, s3, s4, s5⟩ := hs
  have hJ : 0 ≤ gi τ 5 0 ∧ gi τ 5 0 ≤ 5 := hb.1
  have hC : 0 ≤ gi τ 5 1 ∧ gi τ 5 1 ≤ 10 := hb.2.1
  have h2 := s2 j hj
  rw [wv_at (by omega)] at h2
  have h2 : 0 ≤ gi τ 54 j ∧ gi τ 54 j < gi τ 5 0 := h2
  have h3 := s3 (gi τ 54 j).toNat (by omega)
  rw [wv_at (by omega)] at h3
  have h3 : 0 ≤ gi τ 55 (gi τ 54 j).toNat ∧ gi τ 55 (gi τ 54 j).toNat ≤ 8 := h3
  refine ⟨⟨by omega, (hb.2.2.2.2.2.1 j hj).1, hb.2.2.1.2, by omega, h3⟩, fun p hp => ?_⟩
  have h4 := s4 (gi τ 54 j).toNat p (by omega) (by rw [wv_at (by omega)]; exact hp)
  rw [wv_at (by omega)] at h4
  have h4 : 0 ≤ gi τ 56 ((gi τ 54 j).toNat * 8 + p) ∧ gi τ 56 ((gi τ 54 j).toNat * 8 + p) < gi τ 5 1 := h4
  omega
theorem v_pd_49_0 {n : Nat}   {σ : Mm} {P : Mm → Prop} (o1 : (gi σ 70 2) = (-1 : Int) → 0 ≤ (gi σ 49 0)) (o2 : (gi σ 70 2) = (-1 : Int) → gi σ 5 3 ≤ 8) (l1 : (gi σ 70 2) ≠ (-1 : Int) → ∀ x2 : Int, x2 = gi σ 70 2 → R 74 29 [some (vr 70), some (vr 49), some (vi x2), some (vi 0)] [] (shF n) 0 0 σ (Qv (shF n) P)) (l2 : (gi σ 70 2) = (-1 : Int) → ∀ x3 : Int, x3 = moT (vw σ 5) (gi σ 49 0) → R 74 29 [some (vr 70), some (vr 49), some (vi x3), some (vi 0)] [] (shF n) 0 0 σ (Qv (shF n) P)) : Cv 74 [vr 70, vr 49] (shF n) σ P :=
  show R 74 0 [some (vr 70), some (vr 49), none, none] [] (shF n) 0 0 σ (Qv (shF n) P) from wpK_R 14 [29] (And.intro (fun q1 => (l1 q1 _ rfl)) (fun q1 => (c_moist  (o1 (Classical.not_not.mp q1)) (o2 (Classical.not_not.mp q1)) ((l2 (Classical.not_not.mp q1) _ rfl)))))
theorem v_pd_49_29 {n : Nat}  (mo : Int) (k : Nat) {σ : Mm} {P : Mm → Prop} (o1 : (k : Int) < (gi σ 5 1) → (0 ≤ (k : Int) ∧ (k : Int) < 10)) (o2 : (k : Int) < (gi σ 5 1) → (gi σ 11 k) ≠ (gi σ 49 0) → rg ((k : Int) + 1)) (o3 : (k : Int) < (gi σ 5 1) → (gi σ 11 k) = (gi σ 49 0) → (gi σ 50 k) = (gi σ 70 4) → rg ((k : Int) + 1)) (o4 : (k : Int) < (gi σ 5 1) → (gi σ 11 k) = (gi σ 49 0) → (gi σ 50 k) ≠ (gi σ 70 4) → LwOK σ) (o5 : (k : Int) < (gi σ 5 1) → (gi σ 11 k) = (gi σ 49 0) → (gi σ 50 k) ≠ (gi σ 70 4) → k < 10) (o6 : (k : Int) < (gi σ 5 1) → (gi σ 11 k) = (gi σ 49 0) → (gi σ 50 k) ≠ (gi σ 70 4) → (0 ≤ gi σ 50 k ∧ gi σ 50 k < 5)) (o7 : (k : Int) < (gi σ 5 1) → (gi σ 11 k) = (gi σ 49 0) → (gi σ 50 k) ≠ (gi σ 70 4) → (0 ≤ gi σ 7 (gi σ 50 k).toNat ∧ gi σ 7 (gi σ 50 k).toNat ≤ 99)) (o8 : (k : Int) < (gi σ 5 1) → (gi σ 11 k) = (gi σ 49 0) → (gi σ 50 k) ≠ (gi σ 70 4) → (0 ≤ gi σ 12 k ∧ gi σ 12 k ≤ 99)) (o9 : (k : Int) < (gi σ 5 1) → (gi σ 11 k) = (gi σ 49 0) → (gi σ 50 k) ≠ (gi σ 70 4) → (0 ≤ gi σ 54 (gi σ 50 k).toNat ∧ gi σ 54 (gi σ 50 k).toNat < 5)) (o10 : (k : Int) < (gi σ 5 1) → (gi σ 11 k) = (gi σ 49 0) → (gi σ 50 k) ≠ (gi σ 70 4) → (0 ≤ gi σ 55 (gi σ 54 (gi σ 50 k).toNat).toNat ∧ gi σ 55 (gi σ 54 (gi σ 50 k).toNat).toNat ≤ 8)) (o11 : (k : Int) < (gi σ 5 1) → (gi σ 11 k) = (gi σ 49 0) → (gi σ 50 k) ≠ (gi σ 70 4) → (gi σ 55 (gi σ 54 (gi σ 50 k).toNat).toNat < 8 ∨ (0 ≤ gi σ 56 ((gi σ 54 (gi σ 50 k).toNat).toNat * 8) ∧ gi σ 56 ((gi σ 54 (gi σ 50 k).toNat).toNat * 8) < 10))) (o12 : (k : Int) < (gi σ 5 1) → (gi σ 11 k) = (gi σ 49 0) → (gi σ 50 k) ≠ (gi σ 70 4) → ∀ s8 : Mm, Wg 49 σ s8 (hearV (vw σ 5) (wv σ 49) mo (decide (gi σ 70 5 ≠ 0)) k) → rg ((k : Int) + 1)) (l1 : (gi σ 5 1) ≤ (k : Int) → R 74 82 [some (vr 70), some (vr 49), some (vi mo), some (vi (k : Int))] [] (shF n) 0 0 σ (Qv (shF n) P)) (l2 : (k : Int) < (gi σ 5 1) → (gi σ 11 k) ≠ (gi σ 49 0) → R 74 29 [some (vr 70), some (vr 49), some (vi mo), some (vi ((k : Int) + 1))] [] (shF n) 0 0 σ (Qv (shF n) P)) (l3 : (k : Int) < (gi σ 5 1) → (gi σ 11 k) = (gi σ 49 0) → (gi σ 50 k) = (gi σ 70 4) → R 74 29 [some (vr 70), some (vr 49), some (vi mo), some (vi ((k : Int) + 1))] [] (shF n) 0 0 σ (Qv (shF n) P)) (l4 : (k : Int) < (gi σ 5 1) → (gi σ 11 k) = (gi σ 49 0) → (gi σ 50 k) ≠ (gi σ 70 4) → ∀ s8 : Mm, Wg 49 σ s8 (hearV (vw σ 5) (wv σ 49) mo (decide (gi σ 70 5 ≠ 0)) k) → R 74 29 [some (vr 70), some (vr 49), some (vi mo), some (vi ((k : Int) + 1))] [] (shF n) 0 0 s8 (Qv (shF n) P)) : R 74 29 [some (vr 70), some (vr 49), some (vi mo), some (vi (k : Int))] [] (shF n) 0 0 σ (Qv (shF n) P) :=
  wpK_R 28 [29, 82] (And.intro (fun q1 => (l1 q1)) (fun q1 => (have k2 := (o1 (Int.not_le.mp q1)); And.intro k2 (And.intro (fun q3 => (have k4 := (o2 (Int.not_le.mp q1) q3); And.intro k4 ((l2 (Int.not_le.mp q1) q3)))) (fun q3 => And.intro k2 (And.intro (fun q5 => (have k6 := (o3 (Int.not_le.mp q1) (Classical.not_not.mp q3) q5); And.intro k6 ((l3 (Int.not_le.mp q1) (Classical.not_not.mp q3) q5)))) (fun q5 => (c_hear_49 (c := k) (o4 (Int.not_le.mp q1) (Classical.not_not.mp q3) q5) (o5 (Int.not_le.mp q1) (Classical.not_not.mp q3) q5) (o6 (Int.not_le.mp q1) (Classical.not_not.mp q3) q5) (o7 (Int.not_le.mp q1) (Classical.not_not.mp q3) q5) (o8 (Int.not_le.mp q1) (Classical.not_not.mp q3) q5) (o9 (Int.not_le.mp q1) (Classical.not_not.mp q3) q5) (o10 (Int.not_le.mp q1) (Classical.not_not.mp q3) q5) (o11 (Int.not_le.mp q1) (Classical.not_not.mp q3) q5) (fun s8 h9 => (have k10 := (o12 (Int.not_le.mp q1) (Classical.not_not.mp q3) q5 s8 h9); And.intro k10 ((l4 (Int.not_le.mp q1) (Classical.not_not.mp q3) q5 s8 h9))))))))))))
theorem v_pd_49_82 {n : Nat}  (mo : Int) (z : Option PV) {σ : Mm} {P : Mm → Prop} (o1 : (0 ≤ (gi σ 49 0) ∧ 0 < (7 : Int))) (l1 : ((gi σ 49 0) % (7 : Int)) ≠ (0 : Int) → R 74 131 [some (vr 70), some (vr 49), some (vi mo), z] [] (shF n) 0 0 σ (Qv (shF n) P)) (l2 : ((gi σ 49 0) % (7 : Int)) = (0 : Int) → R 74 94 [some (vr 70), some (vr 49), some (vi mo), some (vi 0)] [] (shF n) 0 0 σ (Qv (shF n) P)) : R 74 82 [some (vr 70), some (vr 49), some (vi mo), z] [] (shF n) 0 0 σ (Qv (shF n) P) :=
  wpK_R 8 [94, 131] ((have k1 := (o1); And.intro k1 (And.intro (fun q2 => (l1 q2)) (fun q2 => (l2 (Classical.not_not.mp q2))))))
theorem v_pd_49_94 {n : Nat}  (mo : Int) (k : Nat) {σ : Mm} {P : Mm → Prop} (o1 : (k : Int) < (gi σ 5 0) → (0 ≤ (k : Int) ∧ (k : Int) < 5)) (o2 : (k : Int) < (gi σ 5 0) → (0 ≤ (gi σ 54 k) ∧ (gi σ 54 k) < 5)) (o3 : (k : Int) < (gi σ 5 0) → ∀ x3 : Int, x3 = b2i (bi (gi σ 49 1) (gi σ 54 k).toNat) → x3 ≠ (0 : Int) → rg ((k : Int) + 1)) (o4 : (k : Int) < (gi σ 5 0) → ∀ x3 : Int, x3 = b2i (bi (gi σ 49 1) (gi σ 54 k).toNat) → x3 = (0 : Int) → LwOK σ) (o5 : (k : Int) < (gi σ 5 0) → ∀ x3 : Int, x3 = b2i (bi (gi σ 49 1) (gi σ 54 k).toNat) → x3 = (0 : Int) → k < 5) (o6 : (k : Int) < (gi σ 5 0) → ∀ x3 : Int, x3 = b2i (bi (gi σ 49 1) (gi σ 54 k).toNat) → x3 = (0 : Int) → (0 ≤ gi σ 7 k ∧ gi σ 7 k ≤ 99)) (o7 : (k : Int) < (gi σ 5 0) → ∀ x3 : Int, x3 = b2i (bi (gi σ 49 1) (gi σ 54 k).toNat) → x3 = (0 : Int) → (0 ≤ mo ∧ mo ≤ 9)) (o8 : (k : Int) < (gi σ 5 0) → ∀ x3 : Int, x3 = b2i (bi (gi σ 49 1) (gi σ 54 k).toNat) → x3 = (0 : Int) → (0 ≤ gi σ 70 3 ∧ gi σ 70 3 ≤ 9)) (o9 : (k : Int) < (gi σ 5 0) → ∀ x3 : Int, x3 = b2i (bi (gi σ 49 1) (gi σ 54 k).toNat) → x3 = (0 : Int) → 0 ≤ gi σ 49 0) (o10 : (k : Int) < (gi σ 5 0) → ∀ x3 : Int, x3 = b2i (bi (gi σ 49 1) (gi σ 54 k).toNat) → x3 = (0 : Int) → gi σ 5 2 ≤ 5) (o11 : (k : Int) < (gi σ 5 0) → ∀ x3 : Int, x3 = b2i (bi (gi σ 49 1) (gi σ 54 k).toNat) → x3 = (0 : Int) → (0 ≤ gi σ 54 k ∧ gi σ 54 k < 5)) (o12 : (k : Int) < (gi σ 5 0) → ∀ x3 : Int, x3 = b2i (bi (gi σ 49 1) (gi σ 54 k).toNat) → x3 = (0 : Int) → (0 ≤ gi σ 55 (gi σ 54 k).toNat ∧ gi σ 55 (gi σ 54 k).toNat ≤ 8)) (o13 : (k : Int) < (gi σ 5 0) → ∀ x3 : Int, x3 = b2i (bi (gi σ 49 1) (gi σ 54 k).toNat) → x3 = (0 : Int) → (∀ p : Nat, (p : Int) < gi σ 55 (gi σ 54 k).toNat → 0 ≤ gi σ 56 ((gi σ 54 k).toNat * 8 + p) ∧ gi σ 56 ((gi σ 54 k).toNat * 8 + p) < 10)) (o14 : (k : Int) < (gi σ 5 0) → ∀ x3 : Int, x3 = b2i (bi (gi σ 49 1) (gi σ 54 k).toNat) → x3 = (0 : Int) → ∀ s7 : Mm, Wg 49 σ s7 (airU (vw σ 5) (wv σ 49) (gi σ 54 k).toNat (outN (vw σ 5) (wv σ 49) mo (gi σ 70 3) k (gi σ 54 k).toNat)) → rg ((k : Int) + 1)) (l1 : (gi σ 5 0) ≤ (k : Int) → R 74 131 [some (vr 70), some (vr 49), some (vi mo), some (vi (k : Int))] [] (shF n) 0 0 σ (Qv (shF n) P)) (l2 : (k : Int) < (gi σ 5 0) → ∀ x3 : Int, x3 = b2i (bi (gi σ 49 1) (gi σ 54 k).toNat) → x3 ≠ (0 : Int) → R 74 94 [some (vr 70), some (vr 49), some (vi mo), some (vi ((k : Int) + 1))] [] (shF n) 0 0 σ (Qv (shF n) P)) (l3 : (k : Int) < (gi σ 5 0) → ∀ x3 : Int, x3 = b2i (bi (gi σ 49 1) (gi σ 54 k).toNat) → x3 = (0 : Int) → ∀ s7 : Mm, Wg 49 σ s7 (airU (vw σ 5) (wv σ 49) (gi σ 54 k).toNat (outN (vw σ 5) (wv σ 49) mo (gi σ 70 3) k (gi σ 54 k).toNat)) → R 74 94 [some (vr 70), some (vr 49), some (vi mo), some (vi ((k : Int) + 1))] [] (shF n) 0 0 s7 (Qv (shF n) P)) : R 74 94 [some (vr 70), some (vr 49), some (vi mo), some (vi (k : Int))] [] (shF n) 0 0 σ (Qv (shF n) P) :=
  wpK_R 20 [94, 131] (And.intro (fun q1 => (l1 q1)) (fun q1 => (have k2 := (o1 (Int.not_le.mp q1)); And.intro k2 ((c_kept_49  (o2 (Int.not_le.mp q1)) (And.intro (fun q4 => (have k5 := (o3 (Int.not_le.mp q1) _ rfl q4); And.intro k5 ((l2 (Int.not_le.mp q1) _ rfl q4)))) (fun q4 => (c_air_49 (j := k) (o4 (Int.not_le.mp q1) _ rfl (Classical.not_not.mp q4)) (o5 (Int.not_le.mp q1) _ rfl (Classical.not_not.mp q4)) (o6 (Int.not_le.mp q1) _ rfl (Classical.not_not.mp q4)) (o7 (Int.not_le.mp q1) _ rfl (Classical.not_not.mp q4)) (o8 (Int.not_le.mp q1) _ rfl (Classical.not_not.mp q4)) (o9 (Int.not_le.mp q1) _ rfl (Classical.not_not.mp q4)) (o10 (Int.not_le.mp q1) _ rfl (Classical.not_not.mp q4)) (o11 (Int.not_le.mp q1) _ rfl (Classical.not_not.mp q4)) (o12 (Int.not_le.mp q1) _ rfl (Classical.not_not.mp q4)) (o13 (Int.not_le.mp q1) _ rfl (Classical.not_not.mp q4)) (fun s7 h8 => (have k9 := (o14 (Int.not_le.mp q1) _ rfl (Classical.not_not.mp q4) s7 h8); And.intro k9 ((l3 (Int.not_le.mp q1) _ rfl (Classical.not_not.mp q4) s7 h8))))))))))))
theorem v_pd_49_131 {n : Nat}  (mo : Int) (z : Option PV) {σ : Mm} {P : Mm → Prop} (o1 : rg ((gi σ 49 0) + 1)) (l1 : ∀ t2 : Mm, t2 = si σ 49 0 ((gi σ 49 0) + 1) → P t2) : R 74 131 [some (vr 70), some (vr 49), some (vi mo), z] [] (shF n) 0 0 σ (Qv (shF n) P) :=
  wpK_R 7 [] ((have k1 := (o1); And.intro k1 (And.intro ret0 ⟨rfl, rfl, (l1 _ rfl)⟩)))
theorem vw_same {σ τ : Mm} (h : ∀ a b, 5 ≤ a → a ≤ 20 → gi τ a b = gi σ a b) : vw τ 5 = vw σ 5 := by
  funext f i
  simp only [vw]
  split
  · exact h _ _ (by omega) (by omega)
  · rfl
theorem c_pd_40 {n : Nat} {σ : Mm} {P : Mm → Prop} (hb : BkOK (vw σ 5)) (hs : SI (vw σ 5) (wv σ 40)) (hdm : gi σ 70 2 = -1 ∨ (0 ≤ gi σ 70 2 ∧ gi σ 70 2 ≤ 9)) (hbt : 0 ≤ gi σ 70 3 ∧ gi σ 70 3 ≤ 9) (hd : gi σ 40 0 < 30000)
    (hP : ∀ σ', Wg 40 σ σ' (dayV (vw σ 5) (wv σ 40) (moD (vw σ 5) (gi σ 70 2) (gi σ 40 0)) (gi σ 70 3) (gi σ 70 4) (decide (gi σ 70 5 ≠ 0)) (fun u => !bi (gi σ 40 1) u)) → P σ') : Cv 74 [vr 70, vr 40] (shF n) σ P := by
  have hJ : 0 ≤ gi σ 5 0 ∧ gi σ 5 0 ≤ 5 := hb.1
  have hC : 0 ≤ gi σ 5 1 ∧ gi σ 5 1 ≤ 10 := hb.2.1
  have hd0 : 0 ≤ gi σ 40 0 := by have := hs.2.2.2.2; rw [wv_at (by omega)] at this; exact this
  have hV0 : wv σ 40 0 0 = gi σ 40 0 := by rw [wv_at (by omega)]
  have hV1 : wv σ 40 0 1 = gi σ 40 1 := by rw [wv_at (by omega)]
  obtain ⟨T, hT⟩ : ∃ T, T = vw σ 5 := ⟨_, rfl⟩
  obtain ⟨V, hV⟩ : ∃ V, V = wv σ 40 := ⟨_, rfl⟩
  obtain ⟨mo, hmo⟩ : ∃ mo, mo = moD T (gi σ 70 2) (gi σ 40 0) := ⟨_, rfl⟩
  have hT00 : T 0 0 = gi σ 5 0 := by rw [hT]; rfl
  have hT01 : T 0 1 = gi σ 5 1 := by rw [hT]; rfl
  have hT6 : ∀ c, T 6 c = gi σ 11 c := fun c => by rw [hT]; rfl
  rw [← hT] at hb hs hP
  rw [← hV] at hs hP hV0 hV1
  rw [← hmo] at hP
  have hmo9 : 0 ≤ mo ∧ mo ≤ 9 := by
    rw [hmo]; unfold moD
    split
    · exact moT_in hb
    · omega
  have eT : ∀ τ : Mm, (∀ a b, (a < 40 ∨ 40 + 8 < a) → a ≠ 68 → gi τ a b = gi σ a b) → vw τ 5 = T := fun τ h => by rw [hT]; exact vw_same fun a b p q => h a b (by omega) (by omega)
  have p131 : ∀ (τ : Mm) (A : Nat → Nat → Int) (z : Option PV), (∀ a b, (a < 40 ∨ 40 + 8 < a) → a ≠ 68 → gi τ a b = gi σ a b) → (∀ a b, a ≠ 67 → a ≠ 69 → gl τ a b = gl σ a b) → wv τ 40 = A → A 0 0 = gi σ 40 0 →
      (∀ σ', Wg 40 σ σ' (fun f i => if f = 0 ∧ i = 0 then gi σ 40 0 + 1 else A f i) → P σ') → R 74 131 [some (vr 70), some (vr 40), some (vi mo), z] [] (shF n) 0 0 τ (Qv (shF n) P) := by
    intro τ A z e1 e2 e3 e4 hQ
    have e0 : gi τ 40 0 = gi σ 40 0 := by rw [← e4, ← e3, wv_at (by omega)]
    refine v_pd_40_131 mo z (by intros; first | omega | (unfold rg; omega) | (subst_vars; simp only [gi_si, gi_sl, gl_si, gl_sl]; first | omega | (unfold rg; omega))) ?_
    intro t ht
    subst ht
    refine hQ _ ⟨fun a b p q => by rw [gi_ne (by omega)]; exact e1 a b p q, e2, ?_⟩
    rw [wv_si (W := 40) (g := 0) rfl (by omega), e3, e0]
  have p94 : ∀ (τ : Mm) (U : Nat → Nat → Int), (∀ a b, (a < 40 ∨ 40 + 8 < a) → a ≠ 68 → gi τ a b = gi σ a b) → (∀ a b, a ≠ 67 → a ≠ 69 → gl τ a b = gl σ a b) → wv τ 40 = U → SI T U → U 0 0 = gi σ 40 0 → U 0 1 = gi σ 40 1 →
      (∀ σ', Wg 40 σ σ' (fun f i => if f = 0 ∧ i = 0 then gi σ 40 0 + 1 else airJ T U mo (gi σ 70 3) (fun u => !bi (gi σ 40 1) u) (T 0 0).toNat f i) → P σ') → R 74 94 [some (vr 70), some (vr 40), some (vi mo), some (vi 0)] [] (shF n) 0 0 τ (Qv (shF n) P) := by
    intro τ0 U e1 e2 e3 hSU e00 e01 hQ
    refine loopUp (N := (T 0 0).toNat) (I := fun k => ∀ τ : Mm, (∀ a b, (a < 40 ∨ 40 + 8 < a) → a ≠ 68 → gi τ a b = gi σ a b) → (∀ a b, a ≠ 67 → a ≠ 69 → gl τ a b = gl σ a b) → wv τ 40 = airJ T U mo (gi σ 70 3) (fun u => !bi (gi σ 40 1) u) k → R 74 94 [some (vr 70), some (vr 40), some (vi mo), some (vi (k : Int))] [] (shF n) 0 0 τ (Qv (shF n) P)) (fun k hk ih => ?_) 0 (by omega) τ0 e1 e2 e3
    intro τ f1 f2 f3
    have g5 := f1 5 0 (by omega) (by omega)
    have g70 := f1 70 3 (by omega) (by omega)
    have hSA := SI_airJ hb hSU (mo := mo) (bt := gi σ 70 3) (ai := fun u => !bi (gi σ 40 1) u) k (by omega)
    have hTt := eT τ f1
    have hpre := fun h => air_pre_40 (τ := τ) (j := k) (by rw [hTt]; exact hb) (by rw [hTt, f3]; exact hSA) h
    have hlw : LwOK τ := lw_bk (by rw [hTt]; exact hb)
    have k0 : gi τ 40 0 = gi σ 40 0 := by
      have := congrFun (congrFun f3 0) 0
      rw [airJ_at (by omega) (by omega) (by omega), wv_at (by omega), e00] at this
      exact this
    have k1 : gi τ 40 1 = gi σ 40 1 := by
      have := congrFun (congrFun f3 0) 1
      rw [airJ_at (by omega) (by omega) (by omega), wv_at (by omega), e01] at this
      exact this
    have k5 : gi τ 45 k = U 5 k := by
      have := congrFun (congrFun f3 5) k
      rw [airJ_at (by omega) (by omega) (by omega), wv_at (by omega)] at this
      exact this
    refine v_pd_40_94 mo k (by intros; first | omega | exact hlw | (unfold rg; omega) | (have h := hpre (by assumption); first | omega | exact h.2 _ (by assumption))) (by intros; first | omega | exact hlw | (unfold rg; omega) | (have h := hpre (by assumption); first | omega | exact h.2 _ (by assumption))) (by intros; first | omega | exact hlw | (unfold rg; omega) | (have h := hpre (by assumption); first | omega | exact h.2 _ (by assumption))) (by intros; first | omega | exact hlw | (unfold rg; omega) | (have h := hpre (by assumption); first | omega | exact h.2 _ (by assumption))) (by intros; first | omega | exact hlw | (unfold rg; omega) | (have h := hpre (by assumption); first | omega | exact h.2 _ (by assumption))) (by intros; first | omega | exact hlw | (unfold rg; omega) | (have h := hpre (by assumption); first | omega | exact h.2 _ (by assumption))) (by intros; first | omega | exact hlw | (unfold rg; omega) | (have h := hpre (by assumption); first | omega | exact h.2 _ (by assumption))) (by intros; first | omega | exact hlw | (unfold rg; omega) | (have h := hpre (by assumption); first | omega | exact h.2 _ (by assumption))) (by intros; first | omega | exact hlw | (unfold rg; omega) | (have h := hpre (by assumption); first | omega | exact h.2 _ (by assumption))) (by intros; first | omega | exact hlw | (unfold rg; omega) | (have h := hpre (by assumption); first | omega | exact h.2 _ (by assumption))) (by intros; first | omega | exact hlw | (unfold rg; omega) | (have h := hpre (by assumption); first | omega | exact h.2 _ (by assumption))) (by intros; first | omega | exact hlw | (unfold rg; omega) | (have h := hpre (by assumption); first | omega | exact h.2 _ (by assumption))) (by intros; first | omega | exact hlw | (unfold rg; omega) | (have h := hpre (by assumption); first | omega | exact h.2 _ (by assumption))) (by intros; first | omega | exact hlw | (unfold rg; omega) | (have h := hpre (by assumption); first | omega | exact h.2 _ (by assumption))) ?_ ?_ ?_
    · intro h
      have hkN : k = (T 0 0).toNat := by omega
      exact p131 τ _ (some (vi (k : Int))) f1 f2 f3 (by rw [airJ_at (by omega) (by omega) (by omega)]; exact e00) (by rw [hkN]; exact hQ)
    · intro h x3 hx3 h3
      refine ih (by omega) τ f1 f2 ?_
      rw [f3]
      simp only [airJ]
      rw [if_neg]
      rw [k1, k5] at hx3
      have := b2i_nz (hx3 ▸ h3)
      rw [this]; decide
    · intro h x3 hx3 h3 s7 hw
      obtain ⟨w1, w2, w3⟩ := hw
      refine ih (by omega) s7 (fun a b p q => by rw [w1 a b p q]; exact f1 a b p q) (fun a b p q => by rw [w2 a b p q]; exact f2 a b p q) ?_
      rw [w3, hTt, f3, g70, k5]
      simp only [airJ]
      rw [if_pos]
      rw [k1, k5] at hx3
      have := b2i_z (hx3.symm.trans h3)
      rw [this]; decide
  have p82 : ∀ (τ : Mm) (U : Nat → Nat → Int) (z : Option PV), (∀ a b, (a < 40 ∨ 40 + 8 < a) → a ≠ 68 → gi τ a b = gi σ a b) → (∀ a b, a ≠ 67 → a ≠ 69 → gl τ a b = gl σ a b) → wv τ 40 = U → SI T U → U 0 0 = gi σ 40 0 → U 0 1 = gi σ 40 1 →
      (∀ σ', Wg 40 σ σ' (fun f i => if f = 0 ∧ i = 0 then gi σ 40 0 + 1 else (if gi σ 40 0 % 7 = 0 then airJ T U mo (gi σ 70 3) (fun u => !bi (gi σ 40 1) u) (T 0 0).toNat else U) f i) → P σ') → R 74 82 [some (vr 70), some (vr 40), some (vi mo), z] [] (shF n) 0 0 τ (Qv (shF n) P) := by
    intro τ U z e1 e2 e3 hSU e00 e01 hQ
    have k0 : gi τ 40 0 = gi σ 40 0 := by rw [← e00, ← e3, wv_at (by omega)]
    refine v_pd_40_82 mo z (by intros; first | omega | (unfold rg; omega) | (subst_vars; simp only [gi_si, gi_sl, gl_si, gl_sl]; first | omega | (unfold rg; omega))) ?_ ?_
    · intro h
      rw [k0] at h
      simp only [if_neg h] at hQ
      exact p131 τ U z e1 e2 e3 e00 hQ
    · intro h
      rw [k0] at h
      simp only [if_pos h] at hQ
      exact p94 τ U e1 e2 e3 hSU e00 e01 hQ
  have p29 : R 74 29 [some (vr 70), some (vr 40), some (vi mo), some (vi 0)] [] (shF n) 0 0 σ (Qv (shF n) P) := by
    refine loopUp (N := (T 0 1).toNat) (I := fun k => ∀ τ : Mm, (∀ a b, (a < 40 ∨ 40 + 8 < a) → a ≠ 68 → gi τ a b = gi σ a b) → (∀ a b, a ≠ 67 → a ≠ 69 → gl τ a b = gl σ a b) → wv τ 40 = hearsV T V mo (gi σ 70 4) (decide (gi σ 70 5 ≠ 0)) k → R 74 29 [some (vr 70), some (vr 40), some (vi mo), some (vi (k : Int))] [] (shF n) 0 0 τ (Qv (shF n) P)) (fun k hk ih => ?_) 0 (by omega) σ (fun _ _ _ _ => rfl) (fun _ _ _ _ => rfl) hV.symm
    intro τ f1 f2 f3
    have g5 := f1 5 1 (by omega) (by omega)
    have g704 := f1 70 4 (by omega) (by omega)
    have g705 := f1 70 5 (by omega) (by omega)
    have g11 := f1 11 k (by omega) (by omega)
    have hSA := SI_hears hb hs (mo := mo) (df := gi σ 70 4) (fr := decide (gi σ 70 5 ≠ 0)) k (by omega)
    have hTt := eT τ f1
    have hpre := fun h => hear_pre_40 (τ := τ) (c := k) (by rw [hTt]; exact hb) (by rw [hTt, f3]; exact hSA) h
    have hlw : LwOK τ := lw_bk (by rw [hTt]; exact hb)
    have k0 : gi τ 40 0 = V 0 0 := by
      have := congrFun (congrFun f3 0) 0
      rw [hearsV_at (by omega) (by omega) (by omega) (by omega) (by omega), wv_at (by omega)] at this
      exact this
    have k1 : gi τ 41 k = hearsV T V mo (gi σ 70 4) (decide (gi σ 70 5 ≠ 0)) k 1 k := by
      have := congrFun (congrFun f3 1) k
      rw [wv_at (by omega)] at this
      exact this
    have hT6k := hT6 k
    refine v_pd_40_29 mo k (by intros; first | omega | exact hlw | (unfold rg; omega) | (have h := hpre (by assumption); omega)) (by intros; first | omega | exact hlw | (unfold rg; omega) | (have h := hpre (by assumption); omega)) (by intros; first | omega | exact hlw | (unfold rg; omega) | (have h := hpre (by assumption); omega)) (by intros; first | omega | exact hlw | (unfold rg; omega) | (have h := hpre (by assumption); omega)) (by intros; first | omega | exact hlw | (unfold rg; omega) | (have h := hpre (by assumption); omega)) (by intros; first | omega | exact hlw | (unfold rg; omega) | (have h := hpre (by assumption); omega)) (by intros; first | omega | exact hlw | (unfold rg; omega) | (have h := hpre (by assumption); omega)) (by intros; first | omega | exact hlw | (unfold rg; omega) | (have h := hpre (by assumption); omega)) (by intros; first | omega | exact hlw | (unfold rg; omega) | (have h := hpre (by assumption); omega)) (by intros; first | omega | exact hlw | (unfold rg; omega) | (have h := hpre (by assumption); omega)) (by intros; first | omega | exact hlw | (unfold rg; omega) | (have h := hpre (by assumption); omega)) (by intros; first | omega | exact hlw | (unfold rg; omega) | (have h := hpre (by assumption); omega)) ?_ ?_ ?_ ?_
    · intro h
      have hkN : k = (T 0 1).toNat := by omega
      refine p82 τ _ (some (vi (k : Int))) f1 f2 f3 hSA (by rw [hearsV_at (by omega) (by omega) (by omega) (by omega) (by omega)]; exact hV0) (by rw [hearsV_at (by omega) (by omega) (by omega) (by omega) (by omega)]; exact hV1) ?_
      rw [hkN]
      intro σ' h'
      refine hP σ' ?_
      simp only [dayV]
      rw [hV0]
      exact h'
    · intro h h2
      refine ih (by omega) τ f1 f2 ?_
      rw [f3]
      simp only [hearsV]
      rw [if_neg (fun q => h2 (by rw [g11, k0, ← hT6k]; exact q.1))]
    · intro h h2 h3
      refine ih (by omega) τ f1 f2 ?_
      rw [f3]
      simp only [hearsV]
      rw [if_neg (fun q => q.2 (by rw [← k1, h3, g704]))]
    · intro h h2 h3 s8 hw
      obtain ⟨w1, w2, w3⟩ := hw
      refine ih (by omega) s8 (fun a b p q => by rw [w1 a b p q]; exact f1 a b p q) (fun a b p q => by rw [w2 a b p q]; exact f2 a b p q) ?_
      rw [w3, hTt, f3, g705]
      simp only [hearsV]
      rw [if_pos ⟨by rw [hT6k, ← g11, h2, k0], by rw [← k1, ← g704]; exact h3⟩]
  have h53 : gi σ 5 3 ≤ 8 := by have := hb.2.2.2.1; rw [hT] at this; exact this.2
  refine v_pd_40_0 (by intros; first | omega | (unfold rg; omega) | (subst_vars; simp only [gi_si, gi_sl, gl_si, gl_sl]; first | omega | (unfold rg; omega))) (by intros; first | omega | (unfold rg; omega) | (subst_vars; simp only [gi_si, gi_sl, gl_si, gl_sl]; first | omega | (unfold rg; omega))) ?_ ?_
  · intro h
    have : gi σ 70 2 = mo := by rw [hmo]; unfold moD; rw [if_neg h]
    intro x hx
    rw [hx, this]
    exact p29
  · intro h x hx
    have : x = mo := by rw [hmo]; unfold moD; rw [if_pos h, hx, hT]
    intros
    rw [this]
    exact p29
theorem c_pd_49 {n : Nat} {σ : Mm} {P : Mm → Prop} (hb : BkOK (vw σ 5)) (hs : SI (vw σ 5) (wv σ 49)) (hdm : gi σ 70 2 = -1 ∨ (0 ≤ gi σ 70 2 ∧ gi σ 70 2 ≤ 9)) (hbt : 0 ≤ gi σ 70 3 ∧ gi σ 70 3 ≤ 9) (hd : gi σ 49 0 < 30000)
    (hP : ∀ σ', Wg 49 σ σ' (dayV (vw σ 5) (wv σ 49) (moD (vw σ 5) (gi σ 70 2) (gi σ 49 0)) (gi σ 70 3) (gi σ 70 4) (decide (gi σ 70 5 ≠ 0)) (fun u => !bi (gi σ 49 1) u)) → P σ') : Cv 74 [vr 70, vr 49] (shF n) σ P := by
  have hJ : 0 ≤ gi σ 5 0 ∧ gi σ 5 0 ≤ 5 := hb.1
  have hC : 0 ≤ gi σ 5 1 ∧ gi σ 5 1 ≤ 10 := hb.2.1
  have hd0 : 0 ≤ gi σ 49 0 := by have := hs.2.2.2.2; rw [wv_at (by omega)] at this; exact this
  have hV0 : wv σ 49 0 0 = gi σ 49 0 := by rw [wv_at (by omega)]
  have hV1 : wv σ 49 0 1 = gi σ 49 1 := by rw [wv_at (by omega)]
  obtain ⟨T, hT⟩ : ∃ T, T = vw σ 5 := ⟨_, rfl⟩
  obtain ⟨V, hV⟩ : ∃ V, V = wv σ 49 := ⟨_, rfl⟩
  obtain ⟨mo, hmo⟩ : ∃ mo, mo = moD T (gi σ 70 2) (gi σ 49 0) := ⟨_, rfl⟩
  have hT00 : T 0 0 = gi σ 5 0 := by rw [hT]; rfl
  have hT01 : T 0 1 = gi σ 5 1 := by rw [hT]; rfl
  have hT6 : ∀ c, T 6 c = gi σ 11 c := fun c => by rw [hT]; rfl
  rw [← hT] at hb hs hP
  rw [← hV] at hs hP hV0 hV1
  rw [← hmo] at hP
  have hmo9 : 0 ≤ mo ∧ mo ≤ 9 := by
    rw [hmo]; unfold moD
    split
    · exact moT_in hb
    · omega
  have eT : ∀ τ : Mm, (∀ a b, (a < 49 ∨ 49 + 8 < a) → a ≠ 68 → gi τ a b = gi σ a b) → vw τ 5 = T := fun τ h => by rw [hT]; exact vw_same fun a b p q => h a b (by omega) (by omega)
  have p131 : ∀ (τ : Mm) (A : Nat → Nat → Int) (z : Option PV), (∀ a b, (a < 49 ∨ 49 + 8 < a) → a ≠ 68 → gi τ a b = gi σ a b) → (∀ a b, a ≠ 67 → a ≠ 69 → gl τ a b = gl σ a b) → wv τ 49 = A → A 0 0 = gi σ 49 0 →
      (∀ σ', Wg 49 σ σ' (fun f i => if f = 0 ∧ i = 0 then gi σ 49 0 + 1 else A f i) → P σ') → R 74 131 [some (vr 70), some (vr 49), some (vi mo), z] [] (shF n) 0 0 τ (Qv (shF n) P) := by
    intro τ A z e1 e2 e3 e4 hQ
    have e0 : gi τ 49 0 = gi σ 49 0 := by rw [← e4, ← e3, wv_at (by omega)]
    refine v_pd_49_131 mo z (by intros; first | omega | (unfold rg; omega) | (subst_vars; simp only [gi_si, gi_sl, gl_si, gl_sl]; first | omega | (unfold rg; omega))) ?_
    intro t ht
    subst ht
    refine hQ _ ⟨fun a b p q => by rw [gi_ne (by omega)]; exact e1 a b p q, e2, ?_⟩
    rw [wv_si (W := 49) (g := 0) rfl (by omega), e3, e0]
  have p94 : ∀ (τ : Mm) (U : Nat → Nat → Int), (∀ a b, (a < 49 ∨ 49 + 8 < a) → a ≠ 68 → gi τ a b = gi σ a b) → (∀ a b, a ≠ 67 → a ≠ 69 → gl τ a b = gl σ a b) → wv τ 49 = U → SI T U → U 0 0 = gi σ 49 0 → U 0 1 = gi σ 49 1 →
      (∀ σ', Wg 49 σ σ' (fun f i => if f = 0 ∧ i = 0 then gi σ 49 0 + 1 else airJ T U mo (gi σ 70 3) (fun u => !bi (gi σ 49 1) u) (T 0 0).toNat f i) → P σ') → R 74 94 [some (vr 70), some (vr 49), some (vi mo), some (vi 0)] [] (shF n) 0 0 τ (Qv (shF n) P) := by
    intro τ0 U e1 e2 e3 hSU e00 e01 hQ
    refine loopUp (N := (T 0 0).toNat) (I := fun k => ∀ τ : Mm, (∀ a b, (a < 49 ∨ 49 + 8 < a) → a ≠ 68 → gi τ a b = gi σ a b) → (∀ a b, a ≠ 67 → a ≠ 69 → gl τ a b = gl σ a b) → wv τ 49 = airJ T U mo (gi σ 70 3) (fun u => !bi (gi σ 49 1) u) k → R 74 94 [some (vr 70), some (vr 49), some (vi mo), some (vi (k : Int))] [] (shF n) 0 0 τ (Qv (shF n) P)) (fun k hk ih => ?_) 0 (by omega) τ0 e1 e2 e3
    intro τ f1 f2 f3
    have g5 := f1 5 0 (by omega) (by omega)
    have g70 := f1 70 3 (by omega) (by omega)
    have hSA := SI_airJ hb hSU (mo := mo) (bt := gi σ 70 3) (ai := fun u => !bi (gi σ 49 1) u) k (by omega)
    have hTt := eT τ f1
    have hpre := fun h => air_pre_49 (τ := τ) (j := k) (by rw [hTt]; exact hb) (by rw [hTt, f3]; exact hSA) h
    have hlw : LwOK τ := lw_bk (by rw [hTt]; exact hb)
    have k0 : gi τ 49 0 = gi σ 49 0 := by
      have := congrFun (congrFun f3 0) 0
      rw [airJ_at (by omega) (by omega) (by omega), wv_at (by omega), e00] at this
      exact this
    have k1 : gi τ 49 1 = gi σ 49 1 := by
      have := congrFun (congrFun f3 0) 1
      rw [airJ_at (by omega) (by omega) (by omega), wv_at (by omega), e01] at this
      exact this
    have k5 : gi τ 54 k = U 5 k := by
      have := congrFun (congrFun f3 5) k
      rw [airJ_at (by omega) (by omega) (by omega), wv_at (by omega)] at this
      exact this
    refine v_pd_49_94 mo k (by intros; first | omega | exact hlw | (unfold rg; omega) | (have h := hpre (by assumption); first | omega | exact h.2 _ (by assumption))) (by intros; first | omega | exact hlw | (unfold rg; omega) | (have h := hpre (by assumption); first | omega | exact h.2 _ (by assumption))) (by intros; first | omega | exact hlw | (unfold rg; omega) | (have h := hpre (by assumption); first | omega | exact h.2 _ (by assumption))) (by intros; first | omega | exact hlw | (unfold rg; omega) | (have h := hpre (by assumption); first | omega | exact h.2 _ (by assumption))) (by intros; first | omega | exact hlw | (unfold rg; omega) | (have h := hpre (by assumption); first | omega | exact h.2 _ (by assumption))) (by intros; first | omega | exact hlw | (unfold rg; omega) | (have h := hpre (by assumption); first | omega | exact h.2 _ (by assumption))) (by intros; first | omega | exact hlw | (unfold rg; omega) | (have h := hpre (by assumption); first | omega | exact h.2 _ (by assumption))) (by intros; first | omega | exact hlw | (unfold rg; omega) | (have h := hpre (by assumption); first | omega | exact h.2 _ (by assumption))) (by intros; first | omega | exact hlw | (unfold rg; omega) | (have h := hpre (by assumption); first | omega | exact h.2 _ (by assumption))) (by intros; first | omega | exact hlw | (unfold rg; omega) | (have h := hpre (by assumption); first | omega | exact h.2 _ (by assumption))) (by intros; first | omega | exact hlw | (unfold rg; omega) | (have h := hpre (by assumption); first | omega | exact h.2 _ (by assumption))) (by intros; first | omega | exact hlw | (unfold rg; omega) | (have h := hpre (by assumption); first | omega | exact h.2 _ (by assumption))) (by intros; first | omega | exact hlw | (unfold rg; omega) | (have h := hpre (by assumption); first | omega | exact h.2 _ (by assumption))) (by intros; first | omega | exact hlw | (unfold rg; omega) | (have h := hpre (by assumption); first | omega | exact h.2 _ (by assumption))) ?_ ?_ ?_
    · intro h
      have hkN : k = (T 0 0).toNat := by omega
      exact p131 τ _ (some (vi (k : Int))) f1 f2 f3 (by rw [airJ_at (by omega) (by omega) (by omega)]; exact e00) (by rw [hkN]; exact hQ)
    · intro h x3 hx3 h3
      refine ih (by omega) τ f1 f2 ?_
      rw [f3]
      simp only [airJ]
      rw [if_neg]
      rw [k1, k5] at hx3
      have := b2i_nz (hx3 ▸ h3)
      rw [this]; decide
    · intro h x3 hx3 h3 s7 hw
      obtain ⟨w1, w2, w3⟩ := hw
      refine ih (by omega) s7 (fun a b p q => by rw [w1 a b p q]; exact f1 a b p q) (fun a b p q => by rw [w2 a b p q]; exact f2 a b p q) ?_
      rw [w3, hTt, f3, g70, k5]
      simp only [airJ]
      rw [if_pos]
      rw [k1, k5] at hx3
      have := b2i_z (hx3.symm.trans h3)
      rw [this]; decide
  have p82 : ∀ (τ : Mm) (U : Nat → Nat → Int) (z : Option PV), (∀ a b, (a < 49 ∨ 49 + 8 < a) → a ≠ 68 → gi τ a b = gi σ a b) → (∀ a b, a ≠ 67 → a ≠ 69 → gl τ a b = gl σ a b) → wv τ 49 = U → SI T U → U 0 0 = gi σ 49 0 → U 0 1 = gi σ 49 1 →
      (∀ σ', Wg 49 σ σ' (fun f i => if f = 0 ∧ i = 0 then gi σ 49 0 + 1 else (if gi σ 49 0 % 7 = 0 then airJ T U mo (gi σ 70 3) (fun u => !bi (gi σ 49 1) u) (T 0 0).toNat else U) f i) → P σ') → R 74 82 [some (vr 70), some (vr 49), some (vi mo), z] [] (shF n) 0 0 τ (Qv (shF n) P) := by
    intro τ U z e1 e2 e3 hSU e00 e01 hQ
    have k0 : gi τ 49 0 = gi σ 49 0 := by rw [← e00, ← e3, wv_at (by omega)]
    refine v_pd_49_82 mo z (by intros; first | omega | (unfold rg; omega) | (subst_vars; simp only [gi_si, gi_sl, gl_si, gl_sl]; first | omega | (unfold rg; omega))) ?_ ?_
    · intro h
      rw [k0] at h
      simp only [if_neg h] at hQ
      exact p131 τ U z e1 e2 e3 e00 hQ
    · intro h
      rw [k0] at h
      simp only [if_pos h] at hQ
      exact p94 τ U e1 e2 e3 hSU e00 e01 hQ
  have p29 : R 74 29 [some (vr 70), some (vr 49), some (vi mo), some (vi 0)] [] (shF n) 0 0 σ (Qv (shF n) P) := by
    refine loopUp (N := (T 0 1).toNat) (I := fun k => ∀ τ : Mm, (∀ a b, (a < 49 ∨ 49 + 8 < a) → a ≠ 68 → gi τ a b = gi σ a b) → (∀ a b, a ≠ 67 → a ≠ 69 → gl τ a b = gl σ a b) → wv τ 49 = hearsV T V mo (gi σ 70 4) (decide (gi σ 70 5 ≠ 0)) k → R 74 29 [some (vr 70), some (vr 49), some (vi mo), some (vi (k : Int))] [] (shF n) 0 0 τ (Qv (shF n) P)) (fun k hk ih => ?_) 0 (by omega) σ (fun _ _ _ _ => rfl) (fun _ _ _ _ => rfl) hV.symm
    intro τ f1 f2 f3
    have g5 := f1 5 1 (by omega) (by omega)
    have g704 := f1 70 4 (by omega) (by omega)
    have g705 := f1 70 5 (by omega) (by omega)
    have g11 := f1 11 k (by omega) (by omega)
    have hSA := SI_hears hb hs (mo := mo) (df := gi σ 70 4) (fr := decide (gi σ 70 5 ≠ 0)) k (by omega)
    have hTt := eT τ f1
    have hpre := fun h => hear_pre_49 (τ := τ) (c := k) (by rw [hTt]; exact hb) (by rw [hTt, f3]; exact hSA) h
    have hlw : LwOK τ := lw_bk (by rw [hTt]; exact hb)
    have k0 : gi τ 49 0 = V 0 0 := by
      have := congrFun (congrFun f3 0) 0
      rw [hearsV_at (by omega) (by omega) (by omega) (by omega) (by omega), wv_at (by omega)] at this
      exact this
    have k1 : gi τ 50 k = hearsV T V mo (gi σ 70 4) (decide (gi σ 70 5 ≠ 0)) k 1 k := by
      have := congrFun (congrFun f3 1) k
      rw [wv_at (by omega)] at this
      exact this
    have hT6k := hT6 k
    refine v_pd_49_29 mo k (by intros; first | omega | exact hlw | (unfold rg; omega) | (have h := hpre (by assumption); omega)) (by intros; first | omega | exact hlw | (unfold rg; omega) | (have h := hpre (by assumption); omega)) (by intros; first | omega | exact hlw | (unfold rg; omega) | (have h := hpre (by assumption); omega)) (by intros; first | omega | exact hlw | (unfold rg; omega) | (have h := hpre (by assumption); omega)) (by intros; first | omega | exact hlw | (unfold rg; omega) | (have h := hpre (by assumption); omega)) (by intros; first | omega | exact hlw | (unfold rg; omega) | (have h := hpre (by assumption); omega)) (by intros; first | omega | exact hlw | (unfold rg; omega) | (have h := hpre (by assumption); omega)) (by intros; first | omega | exact hlw | (unfold rg; omega) | (have h := hpre (by assumption); omega)) (by intros; first | omega | exact hlw | (unfold rg; omega) | (have h := hpre (by assumption); omega)) (by intros; first | omega | exact hlw | (unfold rg; omega) | (have h := hpre (by assumption); omega)) (by intros; first | omega | exact hlw | (unfold rg; omega) | (have h := hpre (by assumption); omega)) (by intros; first | omega | exact hlw | (unfold rg; omega) | (have h := hpre (by assumption); omega)) ?_ ?_ ?_ ?_
    · intro h
      have hkN : k = (T 0 1).toNat := by omega
      refine p82 τ _ (some (vi (k : Int))) f1 f2 f3 hSA (by rw [hearsV_at (by omega) (by omega) (by omega) (by omega) (by omega)]; exact hV0) (by rw [hearsV_at (by omega) (by omega) (by omega) (by omega) (by omega)]; exact hV1) ?_
      rw [hkN]
      intro σ' h'
      refine hP σ' ?_
      simp only [dayV]
      rw [hV0]
      exact h'
    · intro h h2
      refine ih (by omega) τ f1 f2 ?_
      rw [f3]
      simp only [hearsV]
      rw [if_neg (fun q => h2 (by rw [g11, k0, ← hT6k]; exact q.1))]
    · intro h h2 h3
      refine ih (by omega) τ f1 f2 ?_
      rw [f3]
      simp only [hearsV]
      rw [if_neg (fun q => q.2 (by rw [← k1, h3, g704]))]
    · intro h h2 h3 s8 hw
      obtain ⟨w1, w2, w3⟩ := hw
      refine ih (by omega) s8 (fun a b p q => by rw [w1 a b p q]; exact f1 a b p q) (fun a b p q => by rw [w2 a b p q]; exact f2 a b p q) ?_
      rw [w3, hTt, f3, g705]
      simp only [hearsV]
      rw [if_pos ⟨by rw [hT6k, ← g11, h2, k0], by rw [← k1, ← g704]; exact h3⟩]
  have h53 : gi σ 5 3 ≤ 8 := by have := hb.2.2.2.1; rw [hT] at this; exact this.2
  refine v_pd_49_0 (by intros; first | omega | (unfold rg; omega) | (subst_vars; simp only [gi_si, gi_sl, gl_si, gl_sl]; first | omega | (unfold rg; omega))) (by intros; first | omega | (unfold rg; omega) | (subst_vars; simp only [gi_si, gi_sl, gl_si, gl_sl]; first | omega | (unfold rg; omega))) ?_ ?_
  · intro h
    have : gi σ 70 2 = mo := by rw [hmo]; unfold moD; rw [if_neg h]
    intro x hx
    rw [hx, this]
    exact p29
  · intro h x hx
    have : x = mo := by rw [hmo]; unfold moD; rw [if_pos h, hx, hT]
    intros
    rw [this]
    exact p29
