/-! A CASE HEARD: the reference's side -/
def WI (T V : Nat → Nat → Int) : Prop := SI T V ∧
  (∀ u p : Nat, u < 5 → (p : Int) < V 6 u → V 4 (V 7 (u * 8 + p)).toNat = 1) ∧
  (∀ u p u' p' : Nat, u < 5 → u' < 5 → (p : Int) < V 6 u → (p' : Int) < V 6 u' → V 7 (u * 8 + p) = V 7 (u' * 8 + p') → u = u' ∧ p = p') ∧
  (∀ c : Nat, c < 10 → V 3 c = -1 → V 4 c = 0) ∧
  (∀ c : Nat, c < 10 → (V 3 c = -1 ∨ V 3 c = 0 ∨ V 3 c = 1) ∧ (V 2 c = -1 ∨ V 2 c = 0 ∨ V 2 c = 1) ∧ (V 3 c = -1 ↔ V 2 c = -1)) ∧
  (∀ c : Nat, T 0 1 ≤ (c : Int) → c < 10 → V 3 c = -1) ∧
  (∀ j j' : Nat, (j : Int) < T 0 0 → (j' : Int) < T 0 0 → V 5 j = V 5 j' → j = j') ∧
  (∀ u : Nat, (u : Int) < T 0 0 → ∃ j : Nat, (j : Int) < T 0 0 ∧ V 5 j = (u : Int)) ∧
  (∀ k : Nat, k < 5 → 0 ≤ V 8 k ∧ V 8 k < 1024 ∧ ∀ x : Nat, x < 10 → bi (V 8 k) x = true → V 4 x = 2) ∧
  (∀ u : Nat, T 0 0 ≤ (u : Int) → u < 5 → V 6 u = 0) ∧
  sumF (V 6) 5 = cnt (fun x => decide (V 4 x = 1)) 10 ∧
  (∀ x : Nat, x < 10 → 0 ≤ V 4 x ∧ V 4 x ≤ 3) ∧ (0 ≤ V 0 1 ∧ V 0 1 < 32)
theorem sumF_upf {f : Nat → Int} {k : Nat} {v : Int} : ∀ {n : Nat}, k < n → sumF (upf f k v) n = sumF f n - f k + v := by
  intro n
  induction n with
  | zero => intro h; omega
  | succ n ih =>
    intro h
    show sumF (upf f k v) n + upf f k v n = sumF f n + f n - f k + v
    by_cases hk : k = n
    · subst hk
      have : sumF (upf f k v) k = sumF f k := sumF_congr fun q hq => upf_ne f v (by omega)
      rw [this, upf_same]; omega
    · rw [ih (by omega), upf_ne f v (by omega)]; omega
theorem WI_lay {T V : Nat → Nat → Int} (hb : BkOK T) (h : WI T V) {u c : Nat} (hu : u < 5) (huJ : (u : Int) < T 0 0) (hc : (c : Int) < T 0 1) (h4 : V 4 c = 0) (h3 : V 3 c ≠ -1) : WI T (layV V u c) := by
  have hs := SI_lay h.1 hu hc
  have hC := hb.2.1
  obtain ⟨⟨s1, s2, s3, s4, s5⟩, w1, w2, w3, w4, w5, w6, w7, w8, w9, w10, w11, w12⟩ := h
  have hl : ∀ f i, f ≠ 4 → f ≠ 6 → f ≠ 7 → layV V u c f i = V f i := fun f i h4 h6 h7 => by simp [layV, h4, h6, h7]
  have hsu := s3 u hu
  have nc : ∀ u' p' : Nat, u' < 5 → (p' : Int) < V 6 u' → V 7 (u' * 8 + p') ≠ (c : Int) := fun u' p' a1 a2 e => by
    have := w1 u' p' a1 a2
    rw [e, Int.toNat_natCast, h4] at this
    omega
  by_cases h8 : V 6 u < 8
  · have L4 : layV V u c 4 = upf (V 4) c 1 := by funext i; simp [layV, h8, upf]
    have L6 : layV V u c 6 = upf (V 6) u (V 6 u + 1) := by funext i; simp [layV, h8, upf]
    have L7 : layV V u c 7 = upf (V 7) (u * 8 + (V 6 u).toNat) (c : Int) := by funext i; simp [layV, h8, upf]
    have fe : ∀ u' p' : Nat, u' < 5 → (p' : Int) < layV V u c 6 u' → (u' = u ∧ (p' : Int) = V 6 u ∧ layV V u c 7 (u' * 8 + p') = (c : Int)) ∨ ((p' : Int) < V 6 u' ∧ layV V u c 7 (u' * 8 + p') = V 7 (u' * 8 + p')) := fun u' p' a1 a2 => by
      have s3' := s3 u' a1
      rw [L6] at a2
      by_cases hq : u' * 8 + p' = u * 8 + (V 6 u).toNat
      · have hp8 : p' < 8 := by
          unfold upf at a2
          split at a2 <;> omega
        left
        have : u' = u := by omega
        subst this
        exact ⟨rfl, by omega, by rw [L7, hq, upf_same]⟩
      · right
        refine ⟨?_, by rw [L7, upf_ne _ _ hq]⟩
        unfold upf at a2
        split at a2
        · rename_i e; subst e; omega
        · exact a2
    refine ⟨hs, fun u' p' a1 a2 => ?_, fun u1 p1 u2 p2 a1 a2 a3 a4 e => ?_, fun x a1 a2 => ?_, fun x a1 => ?_, fun x a1 a2 => ?_, fun j j' a1 a2 a3 => ?_, fun x a1 => ?_, fun k a1 => ?_, fun x a1 a2 => ?_, ?_, fun x a1 => ?_, ?_⟩
    · rcases fe u' p' a1 a2 with ⟨q1, q2, q3⟩ | ⟨q1, q2⟩
      · rw [q3, Int.toNat_natCast, L4, upf_same]
      · rw [q2, L4]
        have := w1 u' p' a1 q1
        have hne := nc u' p' a1 q1
        have hin := s4 u' p' a1 q1
        rw [upf_ne _ _ (by omega)]; exact this
    · rcases fe u1 p1 a1 a3 with ⟨q1, q2, q3⟩ | ⟨q1, q2⟩ <;> rcases fe u2 p2 a2 a4 with ⟨t1, t2, t3⟩ | ⟨t1, t2⟩
      · omega
      · rw [q3, t2] at e; exact absurd e.symm (nc u2 p2 a2 t1)
      · rw [q2, t3] at e; exact absurd e (nc u1 p1 a1 q1)
      · rw [q2, t2] at e; exact w2 u1 p1 u2 p2 a1 a2 q1 t1 e
    · rw [hl _ _ (by omega) (by omega) (by omega)] at a2
      rw [L4, upf_ne _ _ (by intro e; subst e; exact h3 a2)]
      exact w3 x a1 a2
    · rw [hl _ _ (by omega) (by omega) (by omega), hl _ _ (by omega) (by omega) (by omega)]; exact w4 x a1
    · rw [hl _ _ (by omega) (by omega) (by omega)]; exact w5 x a1 a2
    · rw [hl _ _ (by omega) (by omega) (by omega), hl _ _ (by omega) (by omega) (by omega)] at a3; exact w6 j j' a1 a2 a3
    · obtain ⟨j, b1, b2⟩ := w7 x a1; exact ⟨j, b1, by rw [hl _ _ (by omega) (by omega) (by omega)]; exact b2⟩
    · rw [hl _ _ (by omega) (by omega) (by omega)]
      obtain ⟨b1, b2, b3⟩ := w8 k a1
      refine ⟨b1, b2, fun x hx hbx => ?_⟩
      have := b3 x hx hbx
      rw [L4, upf_ne _ _ (by intro e; subst e; omega)]; exact this
    · rw [L6, upf_ne _ _ (by intro e; subst e; omega)]; exact w9 x a1 a2
    · rw [L6, L4, sumF_upf hu, cnt_upf (by omega), w10, h4]; simp [b2i]; omega
    · rw [L4]; unfold upf; split
      · omega
      · exact w11 x a1
    · rw [hl _ _ (by omega) (by omega) (by omega)]; exact w12
  · have h88 : V 6 u = 8 := by omega
    obtain ⟨x, hx⟩ := Int.eq_ofNat_of_zero_le (s4 u 0 hu (by omega)).1
    have hxC := (s4 u 0 hu (by omega)).2
    have hx1 := w1 u 0 hu (by omega)
    simp only [Nat.add_zero] at hx hxC hx1
    rw [hx] at hxC hx1
    rw [Int.toNat_natCast] at hx1
    have hxc : x ≠ c := by intro e; subst e; omega
    have L4 : layV V u c 4 = upf (upf (V 4) x 3) c 1 := by funext i; simp [layV, h8, upf, hx]
    have L6 : layV V u c 6 = V 6 := by
      funext i; simp only [layV, if_neg h8]; simp
      intro e; rw [e]; exact h88.symm
    have fe : ∀ u' p' : Nat, u' < 5 → (p' : Int) < V 6 u' → (u' = u ∧ p' = 7 ∧ layV V u c 7 (u' * 8 + p') = (c : Int)) ∨ (u' = u ∧ p' < 7 ∧ layV V u c 7 (u' * 8 + p') = V 7 (u * 8 + (p' + 1))) ∨ (u' ≠ u ∧ layV V u c 7 (u' * 8 + p') = V 7 (u' * 8 + p')) := fun u' p' a1 a2 => by
      have s3' := s3 u' a1
      simp only [layV, if_neg h8]
      by_cases hq : u' = u
      · subst hq
        by_cases h7 : p' = 7
        · left; subst h7; exact ⟨rfl, rfl, by simp⟩
        · right; left
          refine ⟨rfl, by omega, ?_⟩
          simp [h7]
          rw [if_pos (by omega)]
          congr 1
      · right; right
        refine ⟨hq, ?_⟩
        simp
        rw [if_neg (by omega), if_neg (by omega)]
    have fv : ∀ u' p' : Nat, u' < 5 → (p' : Int) < V 6 u' → V 7 (u' * 8 + p') = (x : Int) → u' = u ∧ p' = 0 := fun u' p' a1 a2 e => w2 u' p' u 0 a1 hu a2 (by omega) (by simp only [Nat.add_zero]; rw [e, hx])
    refine ⟨hs, fun u' p' a1 a2 => ?_, fun u1 p1 u2 p2 a1 a2 a3 a4 e => ?_, fun x' a1 a2 => ?_, fun x' a1 => ?_, fun x' a1 a2 => ?_, fun j j' a1 a2 a3 => ?_, fun x' a1 => ?_, fun k a1 => ?_, fun x' a1 a2 => ?_, ?_, fun x' a1 => ?_, ?_⟩
    · rw [L6] at a2
      rcases fe u' p' a1 a2 with ⟨q1, q2, q3⟩ | ⟨q1, q2, q3⟩ | ⟨q1, q3⟩
      · rw [q3, Int.toNat_natCast, L4, upf_same]
      · rw [q3, L4]
        have a5 : ((p' + 1 : Nat) : Int) < V 6 u := by omega
        have := w1 u (p' + 1) hu a5
        have hne := nc u (p' + 1) hu a5
        have hin := s4 u (p' + 1) hu a5
        have hnx : V 7 (u * 8 + (p' + 1)) ≠ (x : Int) := fun e => by have := (fv u (p' + 1) hu a5 e).2; omega
        rw [upf_ne _ _ (by omega), upf_ne _ _ (by omega)]; exact this
      · rw [q3, L4]
        have := w1 u' p' a1 a2
        have hne := nc u' p' a1 a2
        have hin := s4 u' p' a1 a2
        have hnx : V 7 (u' * 8 + p') ≠ (x : Int) := fun e => q1 (fv u' p' a1 a2 e).1
        rw [upf_ne _ _ (by omega), upf_ne _ _ (by omega)]; exact this
    · rw [L6] at a3 a4
      rcases fe u1 p1 a1 a3 with ⟨q1, q2, q3⟩ | ⟨q1, q2, q3⟩ | ⟨q1, q3⟩ <;> rcases fe u2 p2 a2 a4 with ⟨t1, t2, t3⟩ | ⟨t1, t2, t3⟩ | ⟨t1, t3⟩
      · omega
      · rw [q3, t3] at e; exact absurd e.symm (nc u _ hu (by omega))
      · rw [q3, t3] at e; exact absurd e.symm (nc u2 _ a2 a4)
      · rw [q3, t3] at e; exact absurd e (nc u _ hu (by omega))
      · rw [q3, t3] at e; have := w2 u (p1 + 1) u (p2 + 1) hu hu (by omega) (by omega) e; omega
      · rw [q3, t3] at e; have := w2 u (p1 + 1) u2 p2 hu a2 (by omega) a4 e; omega
      · rw [q3, t3] at e; exact absurd e (nc u1 _ a1 a3)
      · rw [q3, t3] at e; have := w2 u1 p1 u (p2 + 1) a1 hu a3 (by omega) e; omega
      · rw [q3, t3] at e; exact w2 u1 p1 u2 p2 a1 a2 a3 a4 e
    · rw [hl _ _ (by omega) (by omega) (by omega)] at a2
      have := w3 x' a1 a2
      rw [L4, upf_ne _ _ (by intro e; subst e; exact h3 a2), upf_ne _ _ (by intro e; subst e; omega)]
      exact this
    · rw [hl _ _ (by omega) (by omega) (by omega), hl _ _ (by omega) (by omega) (by omega)]; exact w4 x' a1
    · rw [hl _ _ (by omega) (by omega) (by omega)]; exact w5 x' a1 a2
    · rw [hl _ _ (by omega) (by omega) (by omega), hl _ _ (by omega) (by omega) (by omega)] at a3; exact w6 j j' a1 a2 a3
    · obtain ⟨j, b1, b2⟩ := w7 x' a1; exact ⟨j, b1, by rw [hl _ _ (by omega) (by omega) (by omega)]; exact b2⟩
    · rw [hl _ _ (by omega) (by omega) (by omega)]
      obtain ⟨b1, b2, b3⟩ := w8 k a1
      refine ⟨b1, b2, fun y hy hby => ?_⟩
      have := b3 y hy hby
      rw [L4, upf_ne _ _ (by intro e; subst e; omega), upf_ne _ _ (by intro e; subst e; omega)]; exact this
    · rw [L6]; exact w9 x' a1 a2
    · rw [L6, L4, cnt_upf (by omega), cnt_upf (by omega), upf_ne _ _ (by omega), w10, h4, hx1]; simp [b2i]
    · rw [L4]; unfold upf; split
      · omega
      · split
        · omega
        · exact w11 x' a1
    · rw [hl _ _ (by omega) (by omega) (by omega)]; exact w12
def setTS (V : Nat → Nat → Int) (c : Nat) (th sd : Bool) : Nat → Nat → Int := fun f i => if f = 2 ∧ i = c then b2i th else if f = 3 ∧ i = c then b2i sd else V f i
theorem setTS_at {V : Nat → Nat → Int} {c : Nat} {th sd : Bool} {f : Nat} (h2 : f ≠ 2) (h3 : f ≠ 3) : setTS V c th sd f = V f := by funext i; simp [setTS, h2, h3]
theorem WI_ts {T V : Nat → Nat → Int} (h : WI T V) {c : Nat} (hc : (c : Int) < T 0 1) (th sd : Bool) : WI T (setTS V c th sd) := by
  obtain ⟨⟨s1, s2, s3, s4, s5⟩, w1, w2, w3, w4, w5, w6, w7, w8, w9, w10, w11, w12⟩ := h
  have e : ∀ f, f ≠ 2 → f ≠ 3 → setTS V c th sd f = V f := fun f => setTS_at
  have e3 : ∀ i, setTS V c th sd 3 i = if i = c then b2i sd else V 3 i := fun i => by simp [setTS]
  have e2 : ∀ i, setTS V c th sd 2 i = if i = c then b2i th else V 2 i := fun i => by simp [setTS]
  have z1 := b2i_01 th
  have z2 := b2i_01 sd
  refine ⟨⟨?_, ?_, ?_, ?_, ?_⟩, ?_, ?_, ?_, ?_, ?_, ?_, ?_, ?_, ?_, ?_, ?_, ?_⟩ <;> (try simp only [e 0 (by omega) (by omega), e 1 (by omega) (by omega), e 4 (by omega) (by omega), e 5 (by omega) (by omega), e 6 (by omega) (by omega), e 7 (by omega) (by omega), e 8 (by omega) (by omega)])
  · exact s1
  · exact s2
  · exact s3
  · exact s4
  · exact s5
  · exact w1
  · exact w2
  · intro x a1 a2
    rw [e3] at a2
    split at a2
    · omega
    · exact w3 x a1 a2
  · intro x a1
    rw [e3, e2]
    split
    · omega
    · exact w4 x a1
  · intro x a1 a2
    rw [e3]
    split
    · omega
    · exact w5 x a1 a2
  · exact w6
  · exact w7
  · exact w8
  · exact w9
  · exact w10
  · exact w11
  · exact w12
theorem hearV_ts (T V : Nat → Nat → Int) (mo : Int) (fr : Bool) (c : Nat) : ∃ th sd : Bool, hearV T V mo fr c = if sd = th then setTS V c th sd else layV (setTS V c th sd) (V 5 (V 1 c).toNat).toNat c := ⟨_, _, rfl⟩
theorem WI_hear {T V : Nat → Nat → Int} (hb : BkOK T) (h : WI T V) {mo : Int} {fr : Bool} {c : Nat} (hc : (c : Int) < T 0 1) (h3 : V 3 c = -1) : WI T (hearV T V mo fr c) := by
  obtain ⟨th, sd, e⟩ := hearV_ts T V mo fr c
  have hC := hb.2.1
  have hJ := hb.1
  have hj := h.1.1 c hc
  have hu := h.1.2.1 (V 1 c).toNat (by omega)
  have h4 := h.2.2.2.1 c (by omega) h3
  have z2 := b2i_01 sd
  rw [e]
  split
  · exact WI_ts h hc th sd
  · exact WI_lay hb (WI_ts h hc th sd) (by omega) (by omega) hc (by rw [setTS_at (by omega) (by omega)]; exact h4) (by simp [setTS]; omega)
theorem hearV_3 {T V : Nat → Nat → Int} {mo : Int} {fr : Bool} {c x : Nat} (h : x ≠ c) : hearV T V mo fr c 3 x = V 3 x := by
  obtain ⟨th, sd, e⟩ := hearV_ts T V mo fr c
  rw [e]
  split
  · simp [setTS, h]
  · simp [layV, setTS, h]
theorem RW_ts {T V : Nat → Nat → Int} {σ σ' : Mm} {b c : Nat} {th sd : Bool} (hc : c < 10) (hw : RW T V σ b) (g : ∀ a i, a ≠ 116 → a ≠ 117 → gi σ' a i = gi σ a i) (g6 : ∀ i, gi σ' 116 i = if i = 10 * b + c then b2i th else gi σ 116 i) (g7 : ∀ i, gi σ' 117 i = if i = 10 * b + c then b2i sd else gi σ 117 i) : RW T (setTS V c th sd) σ' b := by
  obtain ⟨r1, r2, r3, r4, r5, r6, r7⟩ := hw
  have e : ∀ f, f ≠ 2 → f ≠ 3 → setTS V c th sd f = V f := fun f => setTS_at
  refine ⟨?_, fun x hx => ?_, fun x hx => ⟨?_, ?_, ?_⟩, fun x hx => ?_, fun x hx => ?_, ?_, ?_⟩
  · rw [g _ _ (by omega) (by omega), e 0 (by omega) (by omega)]; exact r1
  · rw [g _ _ (by omega) (by omega), e 1 (by omega) (by omega)]; exact r2 x hx
  · rw [g6]; simp only [setTS]
    by_cases hxc : x = c
    · simp [hxc]
    · rw [if_neg (by omega)]; simp [hxc]; exact (r3 x hx).1
  · rw [g7]; simp only [setTS]
    by_cases hxc : x = c
    · simp [hxc]
    · rw [if_neg (by omega)]; simp [hxc]; exact (r3 x hx).2.1
  · rw [g _ _ (by omega) (by omega), e 4 (by omega) (by omega)]; exact (r3 x hx).2.2
  · rw [g 111 _ (by omega) (by omega), g 112 _ (by omega) (by omega), g 113 _ (by omega) (by omega), g 119 _ (by omega) (by omega), e 5 (by omega) (by omega), e 6 (by omega) (by omega), e 0 (by omega) (by omega), e 8 (by omega) (by omega)]; exact r4 x hx
  · rw [g _ _ (by omega) (by omega), e 7 (by omega) (by omega)]; exact r5 x hx
  · rw [g _ _ (by omega) (by omega), e 4 (by omega) (by omega)]; exact r6
  · rw [g _ _ (by omega) (by omega), e 4 (by omega) (by omega)]; exact r7
/-- the reference's plain settings: no leaning put, damp -1 .. 9 -/
def PP (σ : Mm) : Prop := gi σ 85 68 = -1 ∧ (-1 ≤ gi σ 85 67 ∧ gi σ 85 67 ≤ 9)
theorem PP.le {T : Nat → Nat → Int} {σ : Mm} (h : PP σ) (j : Nat) : leR T σ j = T 2 j := by unfold leR; rw [h.1, if_neg (by omega)]
theorem v_hearR {n : Nat} (T : Nat → Nat → Int) (b : Nat) (c : Nat) {M1 : Mm → Prop} {σ : Mm} {P : Mm → Prop} (o1 : rg ((10 : Int) * (b : Int))) (o2 : rg (((10 : Int) * (b : Int)) + (c : Int))) (o3 : (0 ≤ (((10 : Int) * (b : Int)) + (c : Int)) ∧ (((10 : Int) * (b : Int)) + (c : Int)) < 20)) (o4 : ∀ x4 : Int, x4 = gi σ 115 ((10 * b) + c) → rg ((5 : Int) * (b : Int))) (o5 : ∀ x4 : Int, x4 = gi σ 115 ((10 * b) + c) → rg (((5 : Int) * (b : Int)) + x4)) (o6 : ∀ x4 : Int, x4 = gi σ 115 ((10 * b) + c) → (0 ≤ (((5 : Int) * (b : Int)) + x4) ∧ (((5 : Int) * (b : Int)) + x4) < 10)) (o7 : ∀ x4 : Int, x4 = gi σ 115 ((10 * b) + c) → ∀ x8 : Int, x8 = gi σ 111 (((5 : Int) * (b : Int)) + x4).toNat → rg (((5 : Int) * (b : Int)) + x8)) (o8 : ∀ x4 : Int, x4 = gi σ 115 ((10 * b) + c) → ∀ x8 : Int, x8 = gi σ 111 (((5 : Int) * (b : Int)) + x4).toNat → (0 ≤ (((5 : Int) * (b : Int)) + x8) ∧ (((5 : Int) * (b : Int)) + x8) < 10)) (o9 : ∀ x4 : Int, x4 = gi σ 115 ((10 * b) + c) → ∀ x8 : Int, x8 = gi σ 111 (((5 : Int) * (b : Int)) + x4).toNat → ∀ x11 : Int, x11 = gi σ 113 (((5 : Int) * (b : Int)) + x8).toNat → (0 ≤ (b : Int) ∧ (b : Int) < 2)) (o10 : ∀ x4 : Int, x4 = gi σ 115 ((10 * b) + c) → ∀ x8 : Int, x8 = gi σ 111 (((5 : Int) * (b : Int)) + x4).toNat → ∀ x11 : Int, x11 = gi σ 113 (((5 : Int) * (b : Int)) + x8).toNat → ThP T σ x4 x11 (gi σ 120 b)) (o11 : ∀ x4 : Int, x4 = gi σ 115 ((10 * b) + c) → ∀ x8 : Int, x8 = gi σ 111 (((5 : Int) * (b : Int)) + x4).toNat → ∀ x11 : Int, x11 = gi σ 113 (((5 : Int) * (b : Int)) + x8).toNat → (0 ≤ (c : Int) ∧ (c : Int) < T 0 1)) (o12 : ∀ x4 : Int, x4 = gi σ 115 ((10 * b) + c) → ∀ x8 : Int, x8 = gi σ 111 (((5 : Int) * (b : Int)) + x4).toNat → ∀ x11 : Int, x11 = gi σ 113 (((5 : Int) * (b : Int)) + x8).toNat → ∀ x16 : Int, x16 = b2i (thinkS T (nmZ (leR T σ x4.toNat) (T 3 x4.toNat) (T 7 c) x11 (moD T (dmR σ) (gi σ 120 b)) (gi σ 120 b))) → ∀ s14 : Mm, Rk σ s14 → ThP T s14 x4 x11 (gi s14 120 b)) (o13 : ∀ x4 : Int, x4 = gi σ 115 ((10 * b) + c) → ∀ x8 : Int, x8 = gi σ 111 (((5 : Int) * (b : Int)) + x4).toNat → ∀ x11 : Int, x11 = gi σ 113 (((5 : Int) * (b : Int)) + x8).toNat → ∀ x16 : Int, x16 = b2i (thinkS T (nmZ (leR T σ x4.toNat) (T 3 x4.toNat) (T 7 c) x11 (moD T (dmR σ) (gi σ 120 b)) (gi σ 120 b))) → ∀ s14 : Mm, Rk σ s14 → (0 ≤ (c : Int) ∧ (c : Int) < T 0 1)) (o14 : ∀ x4 : Int, x4 = gi σ 115 ((10 * b) + c) → ∀ x8 : Int, x8 = gi σ 111 (((5 : Int) * (b : Int)) + x4).toNat → ∀ x11 : Int, x11 = gi σ 113 (((5 : Int) * (b : Int)) + x8).toNat → ∀ x16 : Int, x16 = b2i (thinkS T (nmZ (leR T σ x4.toNat) (T 3 x4.toNat) (T 7 c) x11 (moD T (dmR σ) (gi σ 120 b)) (gi σ 120 b))) → ∀ s14 : Mm, Rk σ s14 → ∀ x20 : Int, x20 = b2i (if gi s14 85 65 = 3 then thinkS T (nmZ (leR T s14 x4.toNat) (T 3 x4.toNat) (T 7 c) x11 (moD T (dmR s14) (gi s14 120 b)) (gi s14 120 b)) else sayS T (nmZ (leR T s14 x4.toNat) (T 3 x4.toNat) (T 7 c) x11 (moD T (dmR s14) (gi s14 120 b)) (gi s14 120 b)) (thinkS T (nmZ (leR T s14 x4.toNat) (T 3 x4.toNat) (T 7 c) x11 (moD T (dmR s14) (gi s14 120 b)) (gi s14 120 b)))) → ∀ s18 : Mm, Rk s14 s18 → ∀ t21 : Mm, t21 = si s18 116 ((10 * b) + c) x16 → ∀ t22 : Mm, t22 = si t21 117 ((10 * b) + c) x20 → x20 ≠ x16 → Cv 211 [vr 85, vi (b : Int), vi x8, vi (c : Int)] (shF n) t22 M1) (l1 : ∀ x4 : Int, x4 = gi σ 115 ((10 * b) + c) → ∀ x8 : Int, x8 = gi σ 111 (((5 : Int) * (b : Int)) + x4).toNat → ∀ x11 : Int, x11 = gi σ 113 (((5 : Int) * (b : Int)) + x8).toNat → ∀ x16 : Int, x16 = b2i (thinkS T (nmZ (leR T σ x4.toNat) (T 3 x4.toNat) (T 7 c) x11 (moD T (dmR σ) (gi σ 120 b)) (gi σ 120 b))) → ∀ s14 : Mm, Rk σ s14 → ∀ x20 : Int, x20 = b2i (if gi s14 85 65 = 3 then thinkS T (nmZ (leR T s14 x4.toNat) (T 3 x4.toNat) (T 7 c) x11 (moD T (dmR s14) (gi s14 120 b)) (gi s14 120 b)) else sayS T (nmZ (leR T s14 x4.toNat) (T 3 x4.toNat) (T 7 c) x11 (moD T (dmR s14) (gi s14 120 b)) (gi s14 120 b)) (thinkS T (nmZ (leR T s14 x4.toNat) (T 3 x4.toNat) (T 7 c) x11 (moD T (dmR s14) (gi s14 120 b)) (gi s14 120 b)))) → ∀ s18 : Mm, Rk s14 s18 → ∀ t21 : Mm, t21 = si s18 116 ((10 * b) + c) x16 → ∀ t22 : Mm, t22 = si t21 117 ((10 * b) + c) x20 → x20 = x16 → P t22) (l2 : ∀ x4 : Int, x4 = gi σ 115 ((10 * b) + c) → ∀ x8 : Int, x8 = gi σ 111 (((5 : Int) * (b : Int)) + x4).toNat → ∀ x11 : Int, x11 = gi σ 113 (((5 : Int) * (b : Int)) + x8).toNat → ∀ x16 : Int, x16 = b2i (thinkS T (nmZ (leR T σ x4.toNat) (T 3 x4.toNat) (T 7 c) x11 (moD T (dmR σ) (gi σ 120 b)) (gi σ 120 b))) → ∀ s14 : Mm, Rk σ s14 → ∀ x20 : Int, x20 = b2i (if gi s14 85 65 = 3 then thinkS T (nmZ (leR T s14 x4.toNat) (T 3 x4.toNat) (T 7 c) x11 (moD T (dmR s14) (gi s14 120 b)) (gi s14 120 b)) else sayS T (nmZ (leR T s14 x4.toNat) (T 3 x4.toNat) (T 7 c) x11 (moD T (dmR s14) (gi s14 120 b)) (gi s14 120 b)) (thinkS T (nmZ (leR T s14 x4.toNat) (T 3 x4.toNat) (T 7 c) x11 (moD T (dmR s14) (gi s14 120 b)) (gi s14 120 b)))) → ∀ s18 : Mm, Rk s14 s18 → ∀ t21 : Mm, t21 = si s18 116 ((10 * b) + c) x16 → ∀ t22 : Mm, t22 = si t21 117 ((10 * b) + c) x20 → x20 ≠ x16 → ∀ s25 : Mm, M1 s25 → P s25) : Cv 212 [vr 85, vi (b : Int), vi (c : Int)] (shF n) σ P :=
  show R 212 0 [some (vr 85), some (vi (b : Int)), some (vi (c : Int)), none, none, none, none, none] [] (shF n) 0 0 σ (Qv (shF n) P) from wpK_R 74 [] ((have k1 := (o1); And.intro k1 ((have k2 := (o2); And.intro k2 ((have k3 := (o3); And.intro k3 ((have k5 := (o4 _ rfl); And.intro k5 ((have k6 := (o5 _ rfl); And.intro k6 ((have k7 := (o6 _ rfl); And.intro k7 (And.intro k5 ((have k9 := (o7 _ rfl _ rfl); And.intro k9 ((have k10 := (o8 _ rfl _ rfl); And.intro k10 ((have k12 := (o9 _ rfl _ rfl _ rfl); And.intro k12 ((c_thR (T := T) (o10 _ rfl _ rfl _ rfl) (o11 _ rfl _ rfl _ rfl) (fun s14 h15 => And.intro k12 ((c_saR (T := T) (o12 _ rfl _ rfl _ rfl _ rfl s14 h15) (o13 _ rfl _ rfl _ rfl _ rfl s14 h15) (fun s18 h19 => And.intro k1 (And.intro k2 (And.intro k3 (And.intro k1 (And.intro k2 (And.intro k3 (And.intro (fun q23 => And.intro ret0 ⟨rfl, rfl, (l1 _ rfl _ rfl _ rfl _ rfl s14 h15 _ rfl s18 h19 _ rfl _ rfl q23)⟩) (fun q23 => (Cv_mono (o14 _ rfl _ rfl _ rfl _ rfl s14 h15 _ rfl s18 h19 _ rfl _ rfl q23) (fun s25 h24 => And.intro ret0 ⟨rfl, rfl, (l2 _ rfl _ rfl _ rfl _ rfl s14 h15 _ rfl s18 h19 _ rfl _ rfl q23 s25 h24)⟩))))))))))))))))))))))))))))))))))
theorem c_hearR {n b c : Nat} {T V : Nat → Nat → Int} {σ : Mm} {P : Mm → Prop} (hb2 : b < 2) (hb : BkOK T) (hr : RB T σ) (hw : RW T V σ b) (hi : WI T V) (hp : PP σ) (hc : (c : Int) < T 0 1) (h3 : V 3 c = -1) (hd : V 0 0 < 100000)
    (hP : ∀ σ', RF b σ σ' → RW T (hearV T V (moD T (dmR σ) (V 0 0)) (decide (gi σ 85 65 = 3)) c) σ' b → P σ') : Cv 212 [vr 85, vi (b : Int), vi (c : Int)] (shF n) σ P := by
  have hC := hb.2.1
  have hJ := hb.1
  obtain ⟨s1, s2, s3, s4, s5⟩ := hi.1
  obtain ⟨j, hj⟩ := Int.eq_ofNat_of_zero_le (s1 c hc).1
  have hjJ := (s1 c hc).2
  rw [hj] at hjJ
  obtain ⟨u, hu⟩ := Int.eq_ofNat_of_zero_le (s2 j hjJ).1
  have huJ := (s2 j hjJ).2
  rw [hu] at huJ
  have hsz := s3 u (by omega)
  have e115 := hw.2.1 c hc
  rw [hj] at e115
  have e111 := (hw.2.2.2.1 j (by omega)).1
  rw [hu] at e111
  have e113 := (hw.2.2.2.1 u (by omega)).2.2.1
  have e120 := hw.1
  have i1 : ((5 : Int) * (b : Int) + (j : Int)).toNat = 5 * b + j := by omega
  have i2 : ((5 : Int) * (b : Int) + (u : Int)).toNat = 5 * b + u := by omega
  have hle := hp.le (T := T) j
  have h2j := (hb.2.2.2.2.2.1 j hjJ).1
  have hth : ThP T σ (j : Int) (V 6 u) (V 0 0) := ⟨hb, hr, ⟨by omega, hjJ⟩, by rw [Int.toNat_natCast, hle]; exact h2j, ⟨s5, hd⟩, hp.2, hsz⟩
  generalize hnm : nmZ (T 2 j) (T 3 j) (T 7 c) (V 6 u) (moD T (dmR σ) (V 0 0)) (V 0 0) = nm at *
  obtain ⟨th, hthd⟩ : ∃ th, th = thinkS T nm := ⟨_, rfl⟩
  obtain ⟨sd, hsd⟩ : ∃ sd, sd = if gi σ 85 65 = 3 then th else sayS T nm th := ⟨_, rfl⟩
  have hV : hearV T V (moD T (dmR σ) (V 0 0)) (decide (gi σ 85 65 = 3)) c = if sd = th then setTS V c th sd else layV (setTS V c th sd) u c := by
    have : (if decide (gi σ 85 65 = 3) = true then th else sayS T nm th) = sd := by rw [hsd]; simp
    simp only [hearV, hj, hu, Int.toNat_natCast, hnm, ← hthd, this]
    rfl
  rw [hV] at hP
  have e16 : ∀ s : Mm, Rk σ s → thinkS T (nmZ (leR T s j) (T 3 j) (T 7 c) (V 6 u) (moD T (dmR s) (gi s 120 b)) (gi s 120 b)) = th := fun s hk => by
    rw [hk.le, hle, hk.dm, hk.1 _ _ (by omega), e120, hnm, hthd]
  have e20 : ∀ s : Mm, Rk σ s → (if gi s 85 65 = 3 then thinkS T (nmZ (leR T s j) (T 3 j) (T 7 c) (V 6 u) (moD T (dmR s) (gi s 120 b)) (gi s 120 b)) else sayS T (nmZ (leR T s j) (T 3 j) (T 7 c) (V 6 u) (moD T (dmR s) (gi s 120 b)) (gi s 120 b)) (thinkS T (nmZ (leR T s j) (T 3 j) (T 7 c) (V 6 u) (moD T (dmR s) (gi s 120 b)) (gi s 120 b)))) = sd := fun s hk => by
    rw [e16 s hk, hk.1 85 65 (by omega), hsd, hk.le, hle, hk.dm, hk.1 120 _ (by omega), e120, hnm]
  have wts : ∀ s : Mm, Rk σ s → RF b σ (si (si s 116 (10 * b + c) (b2i th)) 117 (10 * b + c) (b2i sd)) ∧ RW T (setTS V c th sd) (si (si s 116 (10 * b + c) (b2i th)) 117 (10 * b + c) (b2i sd)) b := fun s hk => by
    refine ⟨⟨fun a i p q => ?_, fun a i p q => hk.2 a i p q⟩, RW_ts (by omega) (RW_rk hk hw) (fun a i p q => by rw [gi_ne q, gi_ne p]) (fun i => by rw [gi_ne (by omega), gi_same]) (fun i => by rw [gi_same, gi_ne (by omega)])⟩
    unfold hf at p
    rw [gi_si, if_neg (by omega), gi_si, if_neg (by omega), hk.1 a i (by omega)]
  have h4 := hi.2.2.2.1 c (by omega) h3
  have hxx : V 6 u = 8 → ∃ x : Nat, x < 10 ∧ x ≠ c ∧ V 7 (u * 8) = (x : Int) ∧ V 4 x = 1 := fun h => by
    have q := s4 u 0 (by omega) (by omega)
    have q2 := hi.2.1 u 0 (by omega) (by omega)
    simp only [Nat.add_zero] at q q2
    exact ⟨(V 7 (u * 8)).toNat, by omega, by intro e; rw [e] at q2; omega, by omega, q2⟩
  refine v_hearR T b c (M1 := P) ?_ ?_ ?_ ?_ ?_ ?_ ?_ ?_ ?_ ?_ ?_ ?_ ?_ ?_ ?_ ?_
  all_goals (try intro x4 hx4; try (rw [e115] at hx4; subst hx4))
  all_goals (try intro x8 hx8; try (rw [i1, e111] at hx8; subst hx8))
  all_goals (try intro x11 hx11; try (rw [i2, e113] at hx11; subst hx11))
  all_goals first
    | (intros; omega)
    | (intros; unfold rg; omega)
    | (rw [e120]; exact hth)
    | (intro x16 hx16 s14 hk; rw [hk.1 120 _ (by omega), e120]; exact hth.rk hk)
    | (intros; assumption)
    | (intro x16 hx16 s14 hk x20 hx20 s18 hk2 t21 h21 t22 h22 hne
       simp only [Int.toNat_natCast] at hx16 hx20
       rw [e16 σ (Rk.rf σ)] at hx16
       rw [e20 s14 hk] at hx20
       obtain ⟨f1, f2⟩ := wts s18 (hk.tr hk2)
       subst hx16 hx20 h21 h22
       first
        | (refine hP _ f1 ?_; rw [if_pos (b2i_inj hne)]; exact f2)
        | (refine c_layR hb2 f2 ⟨by omega, by omega⟩ ⟨by omega, by omega⟩ ?_ ?_ ?_ (fun σ' g1 g2 => hP σ' (f1.tr g1) ?_)
           · rw [setTS_at (by omega) (by omega)]; exact hsz
           · rw [setTS_at (by omega) (by omega)]; exact h4
           · rw [setTS_at (by omega) (by omega), setTS_at (by omega) (by omega), setTS_at (by omega) (by omega)]; exact hxx
           · rw [if_neg (fun e => hne (by rw [e]))]; exact g2))
