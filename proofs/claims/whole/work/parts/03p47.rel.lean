/-! THE RELATION OF THE CLASS'S STATE TO THE REFERENCE'S -/
/-- the places of the reference's text -/
def hT (a i : Nat) : Prop := (a = 85 ∧ 12 ≤ i ∧ i ≤ 16) ∨ (a = 89 ∧ i = 0) ∨ ((90 ≤ a ∧ a ≤ 92) ∧ i < 5) ∨ ((93 ≤ a ∧ a ≤ 96) ∧ i < 10) ∨ ((97 ≤ a ∧ a ≤ 99) ∧ i < 5) ∨ (a = 100 ∧ i < 8) ∨ ((101 ≤ a ∧ a ≤ 103) ∧ i < 3) ∨ ((104 ≤ a ∧ a ≤ 106) ∧ i < 64)
theorem RB_hT {T : Nat → Nat → Int} {σ σ' : Mm} (hb : BkOK T) (h : ∀ a i, hT a i → gi σ' a i = gi σ a i) (hr : RB T σ) : RB T σ' := by
  have hJ := hb.1
  have hC := hb.2.1
  have hK := hb.2.2.1
  have hD := hb.2.2.2.1
  obtain ⟨⟨a1, a2, a3, a4, a5, a6⟩, b, c, d, e, f⟩ := hr
  have g : ∀ a i, hT a i → ∀ v, gi σ a i = v → gi σ' a i = v := fun a i p v q => (h a i p).trans q
  refine ⟨⟨g _ _ (by simp [hT] <;> omega) _ a1, g _ _ (by simp [hT] <;> omega) _ a2, g _ _ (by simp [hT] <;> omega) _ a3, g _ _ (by simp [hT] <;> omega) _ a4, g _ _ (by simp [hT] <;> omega) _ a5, g _ _ (by simp [hT] <;> omega) _ a6⟩, fun j hj => ?_, fun j hj => ?_, fun j hj => ?_, fun j hj => g _ _ (by simp [hT] <;> omega) _ (e j hj), fun w hw => ?_⟩
  · exact ⟨g _ _ (by simp [hT] <;> omega) _ (b j hj).1, g _ _ (by simp [hT] <;> omega) _ (b j hj).2.1, g _ _ (by simp [hT] <;> omega) _ (b j hj).2.2⟩
  · exact ⟨g _ _ (by simp [hT] <;> omega) _ (c j hj).1, g _ _ (by simp [hT] <;> omega) _ (c j hj).2.1, g _ _ (by simp [hT] <;> omega) _ (c j hj).2.2.1, g _ _ (by simp [hT] <;> omega) _ (c j hj).2.2.2⟩
  · exact ⟨g _ _ (by simp [hT] <;> omega) _ (d j hj).1, g _ _ (by simp [hT] <;> omega) _ (d j hj).2.1, g _ _ (by simp [hT] <;> omega) _ (d j hj).2.2⟩
  · obtain ⟨l1, l2⟩ := f w hw
    have hw3 := hb.2.2.2.2.2.2.2.2.2 w hw
    refine ⟨g _ _ (by simp [hT] <;> omega) _ l1, fun q => ?_⟩
    obtain ⟨m1, m2, m3, m4⟩ := l2 q
    refine ⟨g _ _ (by simp [hT] <;> omega) _ m1, g _ _ (by simp [hT] <;> omega) _ m2, fun m hm => ?_, m4⟩
    have := m3 m hm
    rw [h 104 _ (by simp [hT] <;> omega), h 105 _ (by simp [hT] <;> omega), h 106 _ (by simp [hT] <;> omega)]
    exact this
theorem RW_hf {T V : Nat → Nat → Int} {σ σ' : Mm} {b : Nat} (hC : T 0 1 ≤ 10) (h : ∀ a i, hf b a i → gi σ' a i = gi σ a i) (hr : RW T V σ b) : RW T V σ' b := by
  obtain ⟨r1, r2, r3, r4, r5, r6, r7⟩ := hr
  have g : ∀ a i, hf b a i → ∀ v, gi σ a i = v → gi σ' a i = v := fun a i p v q => (h a i p).trans q
  refine ⟨g _ _ (by simp [hf] <;> omega) _ r1, fun c hc => g _ _ (by simp [hf] <;> omega) _ (r2 c hc), fun c hc => ⟨g _ _ (by simp [hf] <;> omega) _ (r3 c hc).1, g _ _ (by simp [hf] <;> omega) _ (r3 c hc).2.1, g _ _ (by simp [hf] <;> omega) _ (r3 c hc).2.2⟩, fun c hc => ⟨g _ _ (by simp [hf] <;> omega) _ (r4 c hc).1, g _ _ (by simp [hf] <;> omega) _ (r4 c hc).2.1, g _ _ (by simp [hf] <;> omega) _ (r4 c hc).2.2.1, g _ _ (by simp [hf] <;> omega) _ (r4 c hc).2.2.2⟩, fun c hc => g _ _ (by simp [hf] <;> omega) _ (r5 c hc), g _ _ (by simp [hf] <;> omega) _ r6, g _ _ (by simp [hf] <;> omega) _ r7⟩
def anyF (p : Nat → Bool) : Nat → Bool
  | 0 => false
  | n + 1 => anyF p n || p n
theorem anyF_iff {p : Nat → Bool} : ∀ {n : Nat}, anyF p n = true ↔ ∃ q, q < n ∧ p q = true := by
  intro n
  induction n with
  | zero => exact ⟨fun h => Bool.noConfusion h, fun ⟨q, h, _⟩ => absurd h (Nat.not_lt_zero _)⟩
  | succ n ih =>
    simp only [anyF, Bool.or_eq_true, ih]
    constructor
    · rintro (⟨q, h1, h2⟩ | h)
      · exact ⟨q, by omega, h2⟩
      · exact ⟨n, by omega, h⟩
    · rintro ⟨q, h1, h2⟩
      by_cases e : q = n
      · subst e; exact Or.inr h2
      · exact Or.inl ⟨q, by omega, h2⟩
/-- case i lies among the lowest m feathers of cushion u -/
def lies (V : Nat → Nat → Int) (u : Nat) (m : Int) (i : Nat) : Bool := anyF (fun p => decide ((p : Int) < m ∧ V 7 (u * 8 + p) = (i : Int))) 8
theorem lies_iff {V : Nat → Nat → Int} {u : Nat} {m : Int} {i : Nat} : lies V u m i = true ↔ ∃ p : Nat, p < 8 ∧ (p : Int) < m ∧ V 7 (u * 8 + p) = (i : Int) := by
  unfold lies
  rw [anyF_iff]
  constructor
  · rintro ⟨q, h1, h2⟩; exact ⟨q, h1, of_decide_eq_true h2⟩
  · rintro ⟨q, h1, h2⟩; exact ⟨q, h1, decide_eq_true h2⟩
/-- a deed taken back -/
def tbV (V : Nat → Nat → Int) (kd on ot : Int) : Nat → Nat → Int :=
  if kd = 0 then (fun f i => if f = 5 ∧ i = ot.toNat then V 5 on.toNat else if f = 5 ∧ i = on.toNat then V 5 ot.toNat else V f i)
  else if kd = 1 then (fun f i => if f = 0 ∧ i = 1 then (if bi (V 0 1) on.toNat then oand (V 0 1) (oxor (oshl 1 on) (-1)) else oor (V 0 1) (oshl 1 on)) else V f i)
  else if kd = 2 then (fun f i => if f = 6 ∧ i = on.toNat then ot else if f = 4 ∧ lies V on.toNat ot i then 1 else V f i)
  else (fun f i => if f = 1 ∧ i = on.toNat then ot else V f i)
def dIx (st mn t : Nat) : Nat := (st + (mn - 1 - t)) % 20
def unV (σ : Mm) (V : Nat → Nat → Int) (st mn : Nat) : Nat → (Nat → Nat → Int)
  | 0 => V
  | t + 1 => tbV (unV σ V st mn t) (gi σ 72 (dIx st mn t)) (gi σ 73 (dIx st mn t)) (gi σ 74 (dIx st mn t))
/-- a deed that may be taken back from V -/
def DV (T V : Nat → Nat → Int) (kd on ot : Int) : Prop :=
  (kd = 0 ∧ (0 ≤ on ∧ on < T 0 0) ∧ (0 ≤ ot ∧ ot < T 0 0)) ∨ (kd = 1 ∧ (0 ≤ on ∧ on < T 0 0)) ∨
  (kd = 2 ∧ (0 ≤ on ∧ on < T 0 0) ∧ (0 ≤ ot ∧ ot ≤ 8) ∧ (∀ p : Nat, (p : Int) < ot → 0 ≤ V 7 (on.toNat * 8 + p) ∧ V 7 (on.toNat * 8 + p) < T 0 1) ∧ (∀ i : Nat, i < 10 → lies V on.toNat ot i = true → V 4 i = 3)) ∨ (kd = 3 ∧ (0 ≤ on ∧ on < T 0 1) ∧ (0 ≤ ot ∧ ot < T 0 0))
/-- row a of the reference holds the world V from place q on -/
def Snap (T V : Nat → Nat → Int) (σ : Mm) (a q : Nat) : Prop :=
  (∀ j : Nat, j < 5 → gi σ a (q + j) = V 5 j ∧ gi σ a (q + 5 + j) = b2i (bi (V 0 1) j) ∧ gi σ a (q + 10 + j) = V 6 j) ∧ (∀ k : Nat, k < 40 → gi σ a (q + 15 + k) = V 7 k) ∧
  (∀ c : Nat, c < 10 → ((c : Int) < T 0 1 → gi σ a (q + 55 + c) = V 1 c) ∧ gi σ a (q + 65 + c) = V 4 c) ∧ gi σ a (q + 75) = cnt (fun x => decide (V 4 x = 3)) 10
def RelU (T V : Nat → Nat → Int) (σ : Mm) : Prop := ∃ st mn : Nat, gi σ 71 3 = (st : Int) ∧ gi σ 71 4 = (mn : Int) ∧ gi σ 85 82 = (mn : Int) ∧ st < 20 ∧ mn ≤ 20 ∧
  ∀ t : Nat, t < mn → DV T (unV σ V st mn t) (gi σ 72 (dIx st mn t)) (gi σ 73 (dIx st mn t)) (gi σ 74 (dIx st mn t)) ∧ WI T (unV σ V st mn (t + 1)) ∧ Snap T (unV σ V st mn (t + 1)) σ 129 (76 * (mn - 1 - t))
def RelI (T : Nat → Nat → Int) (σ : Mm) : Prop := gi σ 3 10 = gi σ 85 84 ∧ (gi σ 3 10 = 0 ∨ (gi σ 3 10 = 1 ∧ WI T (wv σ 58) ∧ UH T (wv σ 58) ∧ gi σ 58 0 ≤ 9900 ∧ Snap T (wv σ 58) σ 130 0 ∧ (∀ c : Nat, c < 10 → gi σ 131 c = gi σ 60 c ∧ gi σ 131 (10 + c) = gi σ 61 c) ∧ (∀ k : Nat, k < 5 → gi σ 131 (20 + k) = gi σ 66 k) ∧ gi σ 131 25 = gi σ 58 0 ∧ gi σ 131 26 = cnt (fun x => decide (gi σ 62 x = 2)) 10))
def RelF (T : Nat → Nat → Int) (σ : Mm) : Prop := (0 ≤ gi σ 75 6 ∧ gi σ 75 6 ≤ 24) ∧ gi σ 85 76 = gi σ 75 6 ∧ (-1 ≤ gi σ 75 7 ∧ gi σ 75 7 ≤ gi σ 75 6) ∧ gi σ 85 77 = gi σ 75 7 ∧
  ∀ i : Nat, (i : Int) < gi σ 75 6 → (gi σ 78 i = 2 ∧ (0 ≤ gi σ 76 i ∧ gi σ 76 i < (i : Int)) ∧ gi σ 126 (3 * i) = -1 ∧ gi σ 126 (3 * i + 1) = gi σ 76 i) ∨
    ((gi σ 78 i = 0 ∨ gi σ 78 i = 1) ∧ (0 ≤ gi σ 76 i ∧ gi σ 76 i < T 0 1) ∧ (0 ≤ gi σ 77 i ∧ gi σ 77 i < T 0 0) ∧ gi σ 126 (3 * i) = gi σ 76 i ∧ gi σ 126 (3 * i + 1) = gi σ 77 i ∧ gi σ 126 (3 * i + 2) = gi σ 78 i)
def b8 (z : Int) : Int := if z < 128 then z else z - 256
def RelP (σ : Mm) : Prop := (0 ≤ gi σ 3 1 ∧ gi σ 3 1 ≤ 700) ∧ gi σ 85 1 = gi σ 3 1 ∧ (∀ i : Nat, (i : Int) < gi σ 3 1 → (0 ≤ gi σ 86 i ∧ gi σ 86 i < 256) ∧ gi σ 4 i = b8 (gi σ 86 i)) ∧ gi σ 85 4 = gi σ 3 2 ∧ gi σ 85 5 = gi σ 3 3 ∧ (∀ k : Nat, k < 5 → gi σ 5 2 ≤ (k : Int) → gi σ 48 k = 0 ∧ (gi σ 3 10 = 0 ∨ gi σ 66 k = 0))
def pwF (i : Nat) : Int := if i = 0 then 1 else if i = 1 then 3 else if i = 2 then 9 else if i = 3 then 27 else if i = 4 then 81 else 243
/-- the codes of the words of the language, as the class keeps them -/
def cdF (i : Nat) : Int := (([357702816, 102419616, 113428832, 135708672, 72404992, 404455424, 679786848, 639401984, 214728704, 522190848, 48365568, 486146048, 407943168, 658806976, 253810848, 550155776, 452251264, 660149248, 136085504] : List Int)[i]?).getD 0
/-- the letters of the words, as the reference keeps them -/
def cdW (i : Nat) : Int := (([106, 117, 100, 103, 101, 32, 99, 97, 117, 115, 101, 32, 99, 108, 101, 114, 107, 32, 100, 97, 109, 112, 32, 98, 101, 97, 116, 32, 108, 97, 119, 32, 116, 104, 105, 110, 107, 32, 115, 97, 121, 32, 102, 108, 121, 32, 97, 110, 100, 32, 111, 114, 32, 110, 111, 116, 32, 108, 101, 97, 110, 32, 115, 116, 105, 102, 102, 32, 103, 114, 97, 118, 101, 32, 112, 108, 117, 109, 112, 32, 109, 111, 105, 115, 116, 32, 115, 117, 114, 101, 32, 100, 97, 121, 32] : List Int)[i]?).getD 0
/-- all that the class's and the reference's states have to do with each other; xs: the script -/
def Rel (xs : Nat → Int) (N : Nat) (σ : Mm) : Prop := (∀ i, i < N → gi σ 1 i = xs i) ∧ (∀ i, i < 6 → gi σ 0 i = pwF i) ∧ (∀ i, i < 19 → gi σ 38 i = cdF i) ∧ (∀ i, i < 95 → gi σ 87 i = cdW i) ∧
  BkOK (vw σ 5) ∧ RB (vw σ 5) σ ∧ WI (vw σ 5) (wv σ 40) ∧ UH (vw σ 5) (wv σ 40) ∧ RW (vw σ 5) (wv σ 40) σ 0 ∧ gi σ 40 0 ≤ 9900 ∧ RelU (vw σ 5) (wv σ 40) σ ∧ RelI (vw σ 5) σ ∧ RelF (vw σ 5) σ ∧ RelP σ
/-- the places that Rel speaks of: the class's, the reference's -/
def kpX (a : Nat) : Prop := a ≤ 20 ∨ a = 38 ∨ (40 ≤ a ∧ a ≤ 48) ∨ (58 ≤ a ∧ a ≤ 66) ∨ (71 ≤ a ∧ a ≤ 78)
def kpM (a i : Nat) : Prop := (a = 85 ∧ (i = 1 ∨ i = 4 ∨ i = 5 ∨ i = 76 ∨ i = 77 ∨ i = 82 ∨ i = 84)) ∨ a = 86 ∨ a = 87 ∨ hT a i ∨ hf 0 a i ∨ a = 126 ∨ (129 ≤ a ∧ a ≤ 131)
theorem Snap_eq {T V : Nat → Nat → Int} {σ σ' : Mm} {a q : Nat} (h : ∀ i, gi σ' a i = gi σ a i) (hs : Snap T V σ a q) : Snap T V σ' a q := by
  obtain ⟨s1, s2, s3, s4⟩ := hs
  exact ⟨fun j hj => by rw [h, h, h]; exact s1 j hj, fun k hk => by rw [h]; exact s2 k hk, fun c hc => by rw [h, h]; exact s3 c hc, by rw [h]; exact s4⟩
theorem unV_eq {σ σ' : Mm} (h : ∀ a i, 72 ≤ a → a ≤ 74 → gi σ' a i = gi σ a i) (V : Nat → Nat → Int) (st mn : Nat) : ∀ t, unV σ' V st mn t = unV σ V st mn t := by
  intro t
  induction t with
  | zero => rfl
  | succ t ih => simp only [unV]; rw [ih, h 72 _ (by omega) (by omega), h 73 _ (by omega) (by omega), h 74 _ (by omega) (by omega)]
theorem RelU_eq {T V : Nat → Nat → Int} {σ σ' : Mm} (h : ∀ a i, (71 ≤ a ∧ a ≤ 74) ∨ a = 129 ∨ (a = 85 ∧ i = 82) → gi σ' a i = gi σ a i) (hu : RelU T V σ) : RelU T V σ' := by
  obtain ⟨st, mn, h1, h2, h3, h4, h5, h6⟩ := hu
  refine ⟨st, mn, by rw [h _ _ (by omega)]; exact h1, by rw [h _ _ (by omega)]; exact h2, by rw [h _ _ (by omega)]; exact h3, h4, h5, fun t ht => ?_⟩
  obtain ⟨a1, a2, a3⟩ := h6 t ht
  rw [unV_eq (fun a i p q => h a i (by omega)) V st mn t, unV_eq (fun a i p q => h a i (by omega)) V st mn (t + 1), h 72 _ (by omega), h 73 _ (by omega), h 74 _ (by omega)]
  exact ⟨a1, a2, Snap_eq (fun i => h 129 i (by omega)) a3⟩
theorem RelI_eq {T : Nat → Nat → Int} {σ σ' : Mm} (h : ∀ a i, (58 ≤ a ∧ a ≤ 66) ∨ a = 130 ∨ a = 131 ∨ (a = 85 ∧ i = 84) ∨ (a = 3 ∧ i = 10) → gi σ' a i = gi σ a i) (hu : RelI T σ) : RelI T σ' := by
  obtain ⟨h1, h2⟩ := hu
  have e58 : wv σ' 58 = wv σ 58 := wv_eq fun f b hf => h _ _ (by omega)
  unfold RelI
  rw [h 3 10 (by omega), h 85 84 (by omega), e58, h 58 0 (by omega)]
  refine ⟨h1, h2.imp id fun q => ?_⟩
  obtain ⟨q1, q2, q3, q4, q5, q6, q7, q8, q9⟩ := q
  refine ⟨q1, q2, q3, q4, Snap_eq (fun i => h 130 i (by omega)) q5, fun c hc => ?_, fun k hk => ?_, ?_, ?_⟩
  · rw [h 131 _ (by omega), h 131 _ (by omega), h 60 _ (by omega), h 61 _ (by omega)]; exact q6 c hc
  · rw [h 131 _ (by omega), h 66 _ (by omega)]; exact q7 k hk
  · rw [h 131 _ (by omega)]; exact q8
  · rw [h 131 _ (by omega), q9]; exact cnt_congr fun x _ => by rw [h 62 _ (by omega)]
theorem RelF_eq {T : Nat → Nat → Int} {σ σ' : Mm} (h : ∀ a i, (75 ≤ a ∧ a ≤ 78) ∨ a = 126 ∨ (a = 85 ∧ (i = 76 ∨ i = 77)) → gi σ' a i = gi σ a i) (hu : RelF T σ) : RelF T σ' := by
  unfold RelF
  rw [h 75 6 (by omega), h 75 7 (by omega), h 85 76 (by omega), h 85 77 (by omega)]
  refine ⟨hu.1, hu.2.1, hu.2.2.1, hu.2.2.2.1, fun i hi => ?_⟩
  rw [h 78 _ (by omega), h 76 _ (by omega), h 77 _ (by omega), h 126 _ (by omega), h 126 _ (by omega), h 126 _ (by omega)]
  exact hu.2.2.2.2 i hi
theorem RelP_eq {σ σ' : Mm} (h : ∀ a i, a = 3 ∨ a = 4 ∨ a = 86 ∨ (a = 85 ∧ (i = 1 ∨ i = 4 ∨ i = 5)) ∨ a = 5 ∨ a = 48 ∨ a = 66 → gi σ' a i = gi σ a i) (hu : RelP σ) : RelP σ' := by
  unfold RelP
  rw [h 3 1 (by omega), h 85 1 (by omega), h 85 4 (by omega), h 85 5 (by omega), h 3 2 (by omega), h 3 3 (by omega), h 5 2 (by omega)]
  refine ⟨hu.1, hu.2.1, fun i hi => ?_, hu.2.2.2.1, hu.2.2.2.2.1, fun k hk hk2 => ?_⟩
  · rw [h 86 _ (by omega), h 4 _ (by omega)]
    exact hu.2.2.1 i hi
  · rw [h 48 _ (by omega), h 66 _ (by omega), h 3 10 (by omega)]
    exact hu.2.2.2.2.2 k hk hk2
theorem Rel_kp {xs : Nat → Int} {N : Nat} {σ σ' : Mm} (h : Rel xs N σ) (k : ∀ a i, kpX a → gi σ' a i = gi σ a i) (m : ∀ a i, kpM a i → gi σ' a i = gi σ a i) : Rel xs N σ' := by
  obtain ⟨r1, r2, r3, r4, r5, r6, r7, r8, r9, r10, r11, r12, r13, r14⟩ := h
  have eT : vw σ' 5 = vw σ 5 := vw_same fun a b p q => k a b (by unfold kpX; omega)
  have eV : wv σ' 40 = wv σ 40 := wv_eq fun f b hf => k _ _ (by unfold kpX; omega)
  unfold Rel
  rw [eT, eV, k 40 0 (by unfold kpX; omega)]
  have m85 : ∀ i, (i = 1 ∨ i = 4 ∨ i = 5 ∨ i = 76 ∨ i = 77 ∨ i = 82 ∨ i = 84) → gi σ' 85 i = gi σ 85 i := fun i q => m 85 i (Or.inl ⟨rfl, q⟩)
  have m126 : ∀ i, gi σ' 126 i = gi σ 126 i := fun i => m 126 i (by simp [kpM])
  have m129 : ∀ i, gi σ' 129 i = gi σ 129 i := fun i => m 129 i (by simp [kpM])
  have m130 : ∀ i, gi σ' 130 i = gi σ 130 i := fun i => m 130 i (by simp [kpM])
  have m131 : ∀ i, gi σ' 131 i = gi σ 131 i := fun i => m 131 i (by simp [kpM])
  have m86 : ∀ i, gi σ' 86 i = gi σ 86 i := fun i => m 86 i (by simp [kpM])
  refine ⟨fun i hi => by rw [k 1 i (by unfold kpX; omega)]; exact r1 i hi, fun i hi => by rw [k 0 i (by unfold kpX; omega)]; exact r2 i hi, fun i hi => by rw [k 38 i (by unfold kpX; omega)]; exact r3 i hi, fun i hi => by rw [m 87 i (by simp [kpM])]; exact r4 i hi, r5, RB_hT r5 (fun a i p => m a i (by simp [kpM, p])) r6, r7, r8, RW_hf r5.2.1.2 (fun a i p => m a i (by simp [kpM, p])) r9, r10, RelU_eq (fun a i p => ?_) r11, RelI_eq (fun a i p => ?_) r12, RelF_eq (fun a i p => ?_) r13, RelP_eq (fun a i p => ?_) r14⟩
  · rcases p with p | p | p
    · exact k a i (by unfold kpX; omega)
    · rw [p]; exact m129 i
    · rw [p.1]; exact m85 i (by omega)
  · rcases p with p | p | p | p | p
    · exact k a i (by unfold kpX; omega)
    · rw [p]; exact m130 i
    · rw [p]; exact m131 i
    · rw [p.1]; exact m85 i (by omega)
    · exact k a i (by unfold kpX; omega)
  · rcases p with p | p | p
    · exact k a i (by unfold kpX; omega)
    · rw [p]; exact m126 i
    · rw [p.1]; exact m85 i (by omega)
  · rcases p with p | p | p | p | p | p | p
    · exact k a i (by unfold kpX; omega)
    · exact k a i (by unfold kpX; omega)
    · rw [p]; exact m86 i
    · rw [p.1]; exact m85 i (by omega)
    · exact k a i (by unfold kpX; omega)
    · exact k a i (by unfold kpX; omega)
    · exact k a i (by unfold kpX; omega)
theorem kpM_85 {a i : Nat} (h : kpM a i) : 85 ≤ a := by
  rcases h with h | h | h | h | h | h | h
  · omega
  · omega
  · omega
  · unfold hT at h; omega
  · unfold hf at h; omega
  · omega
  · omega
theorem kpM_no {a i : Nat} (h : kpM a i) : ¬ hf 1 a i ∧ ¬ (a = 85 ∧ (i = 51 ∨ i = 64 ∨ i = 72)) := by
  rcases h with h | h | h | h | h | h | h
  · exact ⟨by unfold hf; omega, by omega⟩
  · exact ⟨by unfold hf; omega, by omega⟩
  · exact ⟨by unfold hf; omega, by omega⟩
  · unfold hT at h; exact ⟨by unfold hf; omega, by omega⟩
  · unfold hf at h; exact ⟨by unfold hf; omega, by omega⟩
  · exact ⟨by unfold hf; omega, by omega⟩
  · exact ⟨by unfold hf; omega, by omega⟩
/-- the class has changed but what Rel doesn't speak of -/
theorem Rel_X {xs : Nat → Int} {N : Nat} {σ σ' : Mm} (h : Rel xs N σ) (k : ∀ a i, kpX a ∨ 85 ≤ a → gi σ' a i = gi σ a i) : Rel xs N σ' := Rel_kp h (fun a i p => k a i (Or.inl p)) (fun a i p => k a i (Or.inr (kpM_85 p)))
/-- the reference has -/
theorem Rel_M {xs : Nat → Int} {N : Nat} {σ σ' : Mm} (h : Rel xs N σ) (k : ∀ a i, a < 85 ∨ kpM a i → gi σ' a i = gi σ a i) : Rel xs N σ' := Rel_kp h (fun a i p => k a i (Or.inl (by unfold kpX at p; omega))) (fun a i p => k a i (Or.inr p))
