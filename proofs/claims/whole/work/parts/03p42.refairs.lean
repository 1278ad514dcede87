/-! ONE FEATHER OUT -/
theorem airU_0 (T V : Nat → Nat → Int) (u : Nat) : airU T V u 0 = V := by
  funext f i
  simp only [airU, airN]
  split
  · rename_i h; subst h
    split
    · rename_i h; rw [h]; omega
    · rfl
  · rfl
/-- clerk q hears what lies above p feathers, today -/
def hrs (T V : Nat → Nat → Int) (q : Nat) (p : Int) : Prop := (q : Int) < T 0 2 ∧ bi (T 9 q) ((V 0 0) % 7).toNat = true ∧ p ≤ T 10 q
theorem airU_1 {T V : Nat → Nat → Int} {u s x : Nat} (hs : V 6 u = ((s + 1 : Nat) : Int)) (hx : V 7 (u * 8 + s) = (x : Int)) (f i : Nat) : airU T V u 1 f i = if f = 6 then (if i = u then (s : Int) else V 6 i) else if f = 4 then (if i = x then 2 else V 4 i) else if f = 8 then (if (i : Int) < T 0 2 ∧ bi (T 9 i) ((V 0 0) % 7).toNat = true ∧ (s : Int) ≤ T 10 i then oor (V 8 i) (oshl 1 (x : Int)) else V 8 i) else V f i := by
  simp only [airU, airN, stepA, tellV, hs, Int.toNat_natCast, Nat.add_sub_cancel, Nat.sub_zero, hx]
  by_cases h6 : f = 6
  · simp only [h6, if_true]
    split
    · omega
    · rfl
  · simp only [h6, if_false]
theorem airU_s {T V : Nat → Nat → Int} {u m : Nat} (hm : (m : Int) < V 6 u) : airU T (airU T V u m) u 1 = airU T V u (m + 1) := by
  have e6 : airU T V u m 6 u = V 6 u - (m : Int) := by simp [airU]
  funext f i
  by_cases h6 : f = 6
  · subst h6
    show (if (6 : Nat) = 6 then (if i = u then airU T V u m 6 u - ((1 : Nat) : Int) else airU T V u m 6 i) else _) = (if (6 : Nat) = 6 then (if i = u then V 6 u - ((m + 1 : Nat) : Int) else V 6 i) else _)
    simp only [if_true, e6]
    by_cases hi : i = u
    · simp only [hi, if_true]; omega
    · simp only [hi, if_false]; simp [airU, hi]
  · show (if f = 6 then _ else stepA T (airU T V u m) u ((airU T V u m 6 u).toNat - 1 - 0) f i) = (if f = 6 then _ else stepA T (airN T V u m) u ((V 6 u).toNat - 1 - m) f i)
    rw [if_neg h6, if_neg h6, e6, show (V 6 u - (m : Int)).toNat - 1 - 0 = (V 6 u).toNat - 1 - m by omega]
    have hU : ∀ g, g ≠ 6 → airU T V u m g = airN T V u m g := fun g hg => by funext y; simp [airU, hg]
    simp only [stepA, tellV, hU 7 (by omega), hU 4 (by omega), hU 8 (by omega), hU 0 (by omega), hU f h6]
theorem oor_bnd {a : Int} {x : Nat} {N : Nat} (hN : N < 31) (ha : 0 ≤ a ∧ a < ((2 ^ N : Nat) : Int)) (hx : x < N) : 0 ≤ oor a (oshl 1 (x : Int)) ∧ oor a (oshl 1 (x : Int)) < ((2 ^ N : Nat) : Int) := by
  obtain ⟨m, rfl⟩ := Int.eq_ofNat_of_zero_le ha.1
  have h1 : 2 ^ N ≤ 2 ^ 30 := Nat.pow_le_pow_right (by decide) (by omega)
  have h2 : 2 ^ x < 2 ^ N := Nat.pow_lt_pow_right (by decide) hx
  have h3 : m < 2 ^ N := by omega
  have h30 : (2 : Nat) ^ 30 < 2147483648 := by decide
  rw [shl1_val x (by omega), oor_nat (by omega) (by omega)]
  have := Nat.or_lt_two_pow h3 h2
  omega
theorem WI_air1 {T V : Nat → Nat → Int} (hb : BkOK T) (h : WI T V) {u : Nat} (hu : u < 5) (hs : 0 < V 6 u) : WI T (airU T V u 1) := by
  have hC := hb.2.1
  have hSI := SI_air h.1 (u := u) (m := 1) (by omega)
  obtain ⟨⟨s1, s2, s3, s4, s5⟩, w1, w2, w3, w4, w5, w6, w7, w8, w9, w10, w11, w12⟩ := h
  obtain ⟨s, hss⟩ : ∃ s : Nat, V 6 u = ((s + 1 : Nat) : Int) := ⟨(V 6 u).toNat - 1, by omega⟩
  have hs8 := s3 u hu
  obtain ⟨x, hx⟩ := Int.eq_ofNat_of_zero_le (s4 u s hu (by omega)).1
  have hxC := (s4 u s hu (by omega)).2
  have hx1 := w1 u s hu (by omega)
  rw [hx] at hxC hx1
  rw [Int.toNat_natCast] at hx1
  have A := airU_1 (T := T) hss hx
  have A4 : airU T V u 1 4 = upf (V 4) x 2 := by funext i; rw [A]; simp [upf]
  have A6 : airU T V u 1 6 = upf (V 6) u (s : Int) := by funext i; rw [A]; simp [upf]
  have A0 : ∀ f, f ≠ 4 → f ≠ 6 → f ≠ 8 → airU T V u 1 f = V f := fun f h4 h6 h8 => by funext i; rw [A]; simp [h4, h6, h8]
  have lt6 : ∀ u' p' : Nat, (p' : Int) < airU T V u 1 6 u' → (p' : Int) < V 6 u' ∧ ¬ (u' = u ∧ p' = s) := fun u' p' q => by
    rw [A6] at q
    unfold upf at q
    split at q
    · rename_i e; subst e; constructor <;> omega
    · rename_i e; exact ⟨q, fun z => e z.1⟩
  refine ⟨hSI, fun u' p' a1 a2 => ?_, fun u1 p1 u2 p2 a1 a2 a3 a4 e => ?_, fun y a1 a2 => ?_, ?_, ?_, ?_, ?_, fun k a1 => ?_, fun y a1 a2 => ?_, ?_, fun y a1 => ?_, ?_⟩
  · obtain ⟨q1, q2⟩ := lt6 u' p' a2
    rw [A0 7 (by omega) (by omega) (by omega), A4]
    have hin := s4 u' p' a1 q1
    rw [upf_ne _ _ (fun e => q2 (w2 u' p' u s a1 hu q1 (by omega) (by rw [hx]; omega)))]
    exact w1 u' p' a1 q1
  · rw [A0 7 (by omega) (by omega) (by omega)] at e
    exact w2 u1 p1 u2 p2 a1 a2 (lt6 u1 p1 a3).1 (lt6 u2 p2 a4).1 e
  · rw [A0 3 (by omega) (by omega) (by omega)] at a2
    have := w3 y a1 a2
    rw [A4, upf_ne _ _ (by intro e; subst e; omega)]; exact this
  · rw [A0 3 (by omega) (by omega) (by omega), A0 2 (by omega) (by omega) (by omega)]; exact w4
  · rw [A0 3 (by omega) (by omega) (by omega)]; exact w5
  · rw [A0 5 (by omega) (by omega) (by omega)]; exact w6
  · rw [A0 5 (by omega) (by omega) (by omega)]; exact w7
  · obtain ⟨b1, b2, b3⟩ := w8 k a1
    rw [A4]
    have e8 : airU T V u 1 8 k = if (k : Int) < T 0 2 ∧ bi (T 9 k) ((V 0 0) % 7).toNat = true ∧ (s : Int) ≤ T 10 k then oor (V 8 k) (oshl 1 (x : Int)) else V 8 k := by rw [A]; simp
    rw [e8]
    split
    · have hbn := oor_bnd (N := 10) (by omega) (a := V 8 k) ⟨b1, by simpa using b2⟩ (x := x) (by omega)
      refine ⟨hbn.1, by simpa using hbn.2, fun y hy hby => ?_⟩
      rw [bi_or, shl1 (by omega) (by omega)] at hby
      by_cases hyx : y = x
      · rw [hyx, upf_same]
      · rw [upf_ne _ _ hyx]
        rw [decide_eq_false hyx, Bool.or_false] at hby
        exact b3 y hy hby
    · refine ⟨b1, b2, fun y hy hby => ?_⟩
      have := b3 y hy hby
      rw [upf_ne _ _ (by intro e; subst e; omega)]; exact this
  · rw [A6, upf_ne _ _ (by intro e; subst e; have := w9 y a1 a2; omega)]; exact w9 y a1 a2
  · rw [A6, A4, sumF_upf hu, cnt_upf (by omega), w10, hx1, hss]; simp [b2i]; omega
  · rw [A4]; unfold upf; split
    · omega
    · exact w11 y a1
  · rw [A0 0 (by omega) (by omega) (by omega)]; exact w12
def HN (h : Int) (V0 U : Nat → Nat → Int) : Prop := (0 ≤ h ∧ h < 32) ∧ (∀ i : Nat, i < 5 → (bi h i = true ↔ U 8 i ≠ V0 8 i)) ∧ (∀ i x : Nat, i < 5 → bi (V0 8 i) x = true → bi (U 8 i) x = true)
theorem HN_air1 {T V V0 : Nat → Nat → Int} (h : WI T V) (hC : T 0 1 ≤ 10) {u s x : Nat} (hu : u < 5) (hss : V 6 u = ((s + 1 : Nat) : Int)) (hx : V 7 (u * 8 + s) = (x : Int)) (hx10 : x < 10) {g g' : Int} (hn : HN g V0 V) (hg : 0 ≤ g' ∧ g' < 32) (hbit : ∀ q : Nat, q < 5 → (bi g' q = true ↔ bi g q = true ∨ ((q : Int) < T 0 2 ∧ bi (T 9 q) ((V 0 0) % 7).toNat = true ∧ (s : Int) ≤ T 10 q))) : HN g' V0 (airU T V u 1) := by
  obtain ⟨n1, n2, n3⟩ := hn
  have hx1 := h.2.1 u s hu (by omega)
  rw [hx, Int.toNat_natCast] at hx1
  have e8 : ∀ q, airU T V u 1 8 q = if (q : Int) < T 0 2 ∧ bi (T 9 q) ((V 0 0) % 7).toNat = true ∧ (s : Int) ≤ T 10 q then oor (V 8 q) (oshl 1 (x : Int)) else V 8 q := fun q => by rw [airU_1 hss hx]; simp
  refine ⟨hg, fun q hq => ?_, fun q y hq hby => ?_⟩
  · rw [hbit q hq, e8, n2 q hq]
    split
    · rename_i hc
      constructor
      · intro _ e
        have hb : bi (oor (V 8 q) (oshl 1 (x : Int))) x = true := by rw [bi_or, shl1 (by omega) (by omega)]; simp
        rw [e] at hb
        have := (h.2.2.2.2.2.2.2.2.1 q hq).2.2 x hx10 (n3 q x hq hb)
        omega
      · intro _; exact Or.inr hc
    · rename_i hc
      constructor
      · intro e
        rcases e with e | e
        · exact e
        · exact absurd e hc
      · intro e; exact Or.inl e
  · rw [e8]
    have := n3 q y hq hby
    split
    · rw [bi_or, this, Bool.true_or]
    · exact this
theorem RW_air1 {T V : Nat → Nat → Int} {σ σ' : Mm} {b u s x : Nat} (hw : RW T V σ b) (hss : V 6 u = ((s + 1 : Nat) : Int)) (hx : V 7 (u * 8 + s) = (x : Int)) (hx10 : x < 10) (hx1 : V 4 x = 1)
    (g : ∀ a i, a ≠ 85 → a ≠ 113 → a ≠ 118 → a ≠ 119 → a ≠ 121 → gi σ' a i = gi σ a i)
    (g113 : ∀ i, gi σ' 113 i = if i = 5 * b + u then (s : Int) else gi σ 113 i)
    (g118 : ∀ i, gi σ' 118 i = if i = 10 * b + x then 2 else gi σ 118 i)
    (g119 : ∀ q, q < 5 → gi σ' 119 (5 * b + q) = if (q : Int) < T 0 2 ∧ bi (T 9 q) ((V 0 0) % 7).toNat = true ∧ (s : Int) ≤ T 10 q then oor (V 8 q) (oshl 1 (x : Int)) else V 8 q)
    (g121 : gi σ' 121 b = gi σ 121 b + 1) : RW T (airU T V u 1) σ' b := by
  obtain ⟨r1, r2, r3, r4, r5, r6, r7⟩ := hw
  have A := airU_1 (T := T) hss hx
  have A4 : airU T V u 1 4 = upf (V 4) x 2 := by funext i; rw [A]; simp [upf]
  have A0 : ∀ f, f ≠ 4 → f ≠ 6 → f ≠ 8 → airU T V u 1 f = V f := fun f h4 h6 h8 => by funext i; rw [A]; simp [h4, h6, h8]
  refine ⟨?_, fun y hy => ?_, fun y hy => ⟨?_, ?_, ?_⟩, fun y hy => ⟨?_, ?_, ?_, ?_⟩, fun y hy => ?_, ?_, ?_⟩
  · rw [g _ _ (by omega) (by omega) (by omega) (by omega) (by omega), A0 0 (by omega) (by omega) (by omega)]; exact r1
  · rw [g _ _ (by omega) (by omega) (by omega) (by omega) (by omega), A0 1 (by omega) (by omega) (by omega)]; exact r2 y hy
  · rw [g _ _ (by omega) (by omega) (by omega) (by omega) (by omega), A0 2 (by omega) (by omega) (by omega)]; exact (r3 y hy).1
  · rw [g _ _ (by omega) (by omega) (by omega) (by omega) (by omega), A0 3 (by omega) (by omega) (by omega)]; exact (r3 y hy).2.1
  · rw [g118, A4]; unfold upf
    by_cases e : y = x
    · rw [if_pos (by omega), if_pos e]
    · rw [if_neg (by omega), if_neg e]; exact (r3 y hy).2.2
  · rw [g _ _ (by omega) (by omega) (by omega) (by omega) (by omega), A0 5 (by omega) (by omega) (by omega)]; exact (r4 y hy).1
  · rw [g _ _ (by omega) (by omega) (by omega) (by omega) (by omega), A0 0 (by omega) (by omega) (by omega)]; exact (r4 y hy).2.1
  · rw [g113, A]
    by_cases e : y = u
    · rw [if_pos (by omega)]; simp [e]
    · rw [if_neg (by omega)]; simp [e]; exact (r4 y hy).2.2.1
  · rw [g119 y hy, A]; simp
  · rw [g _ _ (by omega) (by omega) (by omega) (by omega) (by omega), A0 7 (by omega) (by omega) (by omega)]; exact r5 y hy
  · rw [g121, A4, cnt_upf hx10, hx1, r6]; simp [b2i]
  · rw [g _ _ (by omega) (by omega) (by omega) (by omega) (by omega), A4, cnt_upf hx10, hx1, r7]; simp [b2i]
