/-! A CASE HEARD: the reference's side -/
def WI (T V : Nat → Nat → Int) : Prop := SI T V ∧
  (∀ u p : Nat, u < 5 → (p : Int) < V 6 u → V 4 (V 7 (u * 8 + p)).toNat = 1) ∧
  (∀ u p u' p' : Nat, u < 5 → u' < 5 → (p : Int) < V 6 u → (p' : Int) < V 6 u' → V 7 (u * 8 + p) = V 7 (u' * 8 + p') → u = u' ∧ p = p') ∧
  (∀ c : Nat, c < 10 → V 3 c = -1 → V 4 c = 0) ∧
  (∀ c : Nat, c < 10 → (V 3 c = -1 ∨ V 3 c = 0 ∨ V 3 c = 1) ∧ (V 2 c = -1 ∨ V 2 c = 0 ∨ V 2 c = 1) ∧ (V 3 c = -1 ↔ V 2 c = -1)) ∧
  (∀ c : Nat, T 0 1 ≤ (c : Int) → c < 10 → V 3 c = -1) ∧
  (∀ j j' : Nat, (j : Int) < T 0 0 → (j' : Int) < T 0 0 → V 5 j = V 5 j' → j = j') ∧
  (∀ u : Nat, (u : Int) < T 0 0 → ∃ j : Nat, (j : Int) < T 0 0 ∧ V 5 j = (u : Int)) ∧
  (∀ k : Nat, k < 5 → 0 ≤ V 8 k ∧ V 8 k < 1024 ∧ ∀ x : Nat, x < 10 → bi (V 8 k) x = true → V 4 x = 2) ∧
  (∀ u : Nat, T 0 0 ≤ (u : Int) → u < 5 → V 6 u = 0) ∧
  sumF (V 6) 5 = cnt (fun x => decide (V 4 x = 1)) 10 ∧
  (∀ x : Nat, x < 10 → 0 ≤ V 4 x ∧ V 4 x ≤ 3) ∧ (0 ≤ V 0 1 ∧ V 0 1 < 32)
theorem sumF_upf {f : Nat → Int} {k : Nat} {v : Int} : ∀ {n : Nat}, k < n → sumF (upf f k v) n = sumF f n - f k + v := by
  intro n
  induction n with
  | zero => intro h; omega
  | succ n ih =>
    intro h
    show sumF (upf f k v) n + upf f k v n = sumF f n + f n - f k + v
    by_cases hk : k = n
    · subst hk
      have : sumF (upf f k v) k = sumF f k := sumF_congr fun q hq => upf_ne f v (by omega)
      rw [this, upf_same]; omega
    · rw [ih (by omega), upf_ne f v (by omega)]; omega
theorem WI_lay {T V : Nat → Nat → Int} (hb : BkOK T) (h : WI T V) {u c : Nat} (hu : u < 5) (huJ : (u : Int) < T 0 0) (hc : (c : Int) < T 0 1) (h4 : V 4 c = 0) (h3 : V 3 c ≠ -1) : WI T (layV V u c) := by
  have hs := SI_lay h.1 hu hc
  have hC := hb.2.1
  obtain ⟨⟨s1, s2, s3, s4, s5⟩, w1, w2, w3, w4, w5, w6, w7, w8, w9, w10, w11, w12⟩ := h
  have hl : ∀ f i, f ≠ 4 → f ≠ 6 → f ≠ 7 → layV V u c f i = V f i := fun f i h4 h6 h7 => by simp [layV, h4, h6, h7]
  have hsu := s3 u hu
  have nc : ∀ u' p' : Nat, u' < 5 → (p' : Int) < V 6 u' → V 7 (u' * 8 + p') ≠ (c : Int) := fun u' p' a1 a2 e => by
    have := w1 u' p' a1 a2
    rw [e, Int.toNat_natCast, h4] at this
    omega
  by_cases h8 : V 6 u < 8
  · have L4 : layV V u c 4 = upf (V 4) c 1 := by funext i; simp [layV, h8, upf]
    have L6 : layV V u c 6 = upf (V 6) u (V 6 u + 1) := by funext i; simp [layV, h8, upf]
    have L7 : layV V u c 7 = upf (V 7) (u * 8 + (V 6 u).toNat) (c : Int) := by funext i; simp [layV, h8, upf]
    have fe : ∀ u' p' : Nat, u' < 5 → (p' : Int) < layV V u c 6 u' → (u' = u ∧ (p' : Int) = V 6 u ∧ layV V u c 7 (u' * 8 + p') = (c : Int)) ∨ ((p' : Int) < V 6 u' ∧ layV V u c 7 (u' * 8 + p') = V 7 (u' * 8 + p')) := fun u' p' a1 a2 => by
      have s3' := s3 u' a1
      rw [L6] at a2
      by_cases hq : u' * 8 + p' = u * 8 + (V 6 u).toNat
      · have hp8 : p' < 8 := by
          unfold upf at a2
          split at a2 <;> omega
        left
        have : u' = u := by omega
        subst this
        exact ⟨rfl, by omega, by rw [L7, hq, upf_same]⟩
      · right
        refine ⟨?_, by rw [L7, upf_ne _ _ hq]⟩
        unfold upf at a2
        split at a2
        · rename_i e; subst e; omega
        · exact a2
    refine ⟨hs, fun u' p' a1 a2 => ?_, fun u1 p1 u2 p2 a1 a2 a3 a4 e => ?_, fun x a1 a2 => ?_, fun x a1 => ?_, fun x a1 a2 => ?_, fun j j' a1 a2 a3 => ?_, fun x a1 => ?_, fun k a1 => ?_, fun x a1 a2 => ?_, ?_, fun x a1 => ?_, ?_⟩
    · rcases fe u' p' a1 a2 with ⟨q1, q2, q3⟩ | ⟨q1, q2⟩
      · rw [q3, Int.toNat_natCast, L4, upf_same]
      · rw [q2, L4]
        have := w1 u' p' a1 q1
        have hne := nc u' p' a1 q1
        have hin := s4 u' p' a1 q1
        rw [upf_ne _ _ (by omega)]; exact this
    · rcases fe u1 p1 a1 a3 with ⟨q1, q2, q3⟩ | ⟨q1, q2⟩ <;> rcases fe u2 p2 a2 a4 with ⟨t1, t2, t3⟩ | ⟨t1, t2⟩
      · omega
      · rw [q3, t2] at e; exact absurd e.symm (nc u2 p2 a2 t1)
      · rw [q2, t3] at e; exact absurd e (nc u1 p1 a1 q1)
      · rw [q2, t2] at e; exact w2 u1 p1 u2 p2 a1 a2 q1 t1 e
    · rw [hl _ _ (by omega) (by omega) (by omega)] at a2
      rw [L4, upf_ne _ _ (by intro e; subst e; exact h3 a2)]
      exact w3 x a1 a2
    · rw [hl _ _ (by omega) (by omega) (by omega), hl _ _ (by omega) (by omega) (by omega)]; exact w4 x a1
    · rw [hl _ _ (by omega) (by omega) (by omega)]; exact w5 x a1 a2
    · rw [hl _ _ (by omega) (by omega) (by omega), hl _ _ (by omega) (by omega) (by omega)] at a3; exact w6 j j' a1 a2 a3
    · obtain ⟨j, b1, b2⟩ := w7 x a1; exact ⟨j, b1, by rw [hl _ _ (by omega) (by omega) (by omega)]; exact b2⟩
    · rw [hl _ _ (by omega) (by omega) (by omega)]
      obtain ⟨b1, b2, b3⟩ := w8 k a1
      refine ⟨b1, b2, fun x hx hbx => ?_⟩
      have := b3 x hx hbx
      rw [L4, upf_ne _ _ (by intro e; subst e; omega)]; exact this
    · rw [L6, upf_ne _ _ (by intro e; subst e; omega)]; exact w9 x a1 a2
    · rw [L6, L4, sumF_upf hu, cnt_upf (by omega), w10, h4]; simp [b2i]; omega
    · rw [L4]; unfold upf; split
      · omega
      · exact w11 x a1
    · rw [hl _ _ (by omega) (by omega) (by omega)]; exact w12
  · have h88 : V 6 u = 8 := by omega
    obtain ⟨x, hx⟩ := Int.eq_ofNat_of_zero_le (s4 u 0 hu (by omega)).1
    have hxC := (s4 u 0 hu (by omega)).2
    have hx1 := w1 u 0 hu (by omega)
    simp only [Nat.add_zero] at hx hxC hx1
    rw [hx] at hxC hx1
    rw [Int.toNat_natCast] at hx1
    have hxc : x ≠ c := by intro e; subst e; omega
    have L4 : layV V u c 4 = upf (upf (V 4) x 3) c 1 := by funext i; simp [layV, h8, upf, hx]
    have L6 : layV V u c 6 = V 6 := by
      funext i; simp only [layV, if_neg h8]; simp
      intro e; rw [e]; exact h88.symm
    have fe : ∀ u' p' : Nat, u' < 5 → (p' : Int) < V 6 u' → (u' = u ∧ p' = 7 ∧ layV V u c 7 (u' * 8 + p') = (c : Int)) ∨ (u' = u ∧ p' < 7 ∧ layV V u c 7 (u' * 8 + p') = V 7 (u * 8 + (p' + 1))) ∨ (u' ≠ u ∧ layV V u c 7 (u' * 8 + p') = V 7 (u' * 8 + p')) := fun u' p' a1 a2 => by
      have s3' := s3 u' a1
      simp only [layV, if_neg h8]
      by_cases hq : u' = u
      · subst hq
        by_cases h7 : p' = 7
        · left; subst h7; exact ⟨rfl, rfl, by simp⟩
        · right; left
          refine ⟨rfl, by omega, ?_⟩
          simp [h7]
          rw [if_pos (by omega)]
          congr 1
      · right; right
        refine ⟨hq, ?_⟩
        simp
        rw [if_neg (by omega), if_neg (by omega)]
    have fv : ∀ u' p' : Nat, u' < 5 → (p' : Int) < V 6 u' → V 7 (u' * 8 + p') = (x : Int) → u' = u ∧ p' = 0 := fun u' p' a1 a2 e => w2 u' p' u 0 a1 hu a2 (by omega) (by simp only [Nat.add_zero]; rw [e, hx])
    refine ⟨hs, fun u' p' a1 a2 => ?_, fun u1 p1 u2 p2 a1 a2 a3 a4 e => ?_, fun x' a1 a2 => ?_, fun x' a1 => ?_, fun x' a1 a2 => ?_, fun j j' a1 a2 a3 => ?_, fun x' a1 => ?_, fun k a1 => ?_, fun x' a1 a2 => ?_, ?_, fun x' a1 => ?_, ?_⟩
    · rw [L6] at a2
      rcases fe u' p' a1 a2 with ⟨q1, q2, q3⟩ | ⟨q1, q2, q3⟩ | ⟨q1, q3⟩
      · rw [q3, Int.toNat_natCast, L4, upf_same]
      · rw [q3, L4]
        have a5 : ((p' + 1 : Nat) : Int) < V 6 u := by omega
        have := w1 u (p' + 1) hu a5
        have hne := nc u (p' + 1) hu a5
        have hin := s4 u (p' + 1) hu a5
        have hnx : V 7 (u * 8 + (p' + 1)) ≠ (x : Int) := fun e => by have := (fv u (p' + 1) hu a5 e).2; omega
        rw [upf_ne _ _ (by omega), upf_ne _ _ (by omega)]; exact this
      · rw [q3, L4]
        have := w1 u' p' a1 a2
        have hne := nc u' p' a1 a2
        have hin := s4 u' p' a1 a2
        have hnx : V 7 (u' * 8 + p') ≠ (x : Int) := fun e => q1 (fv u' p' a1 a2 e).1
        rw [upf_ne _ _ (by omega), upf_ne _ _ (by omega)]; exact this
    · rw [L6] at a3 a4
      rcases fe u1 p1 a1 a3 with ⟨q1, q2, q3⟩ | ⟨q1, q2, q3⟩ | ⟨q1, q3⟩ <;> rcases fe u2 p2 a2 a4 with ⟨t1, t2, t3⟩ | ⟨t1, t2, t3⟩ | ⟨t1, t3⟩
      · omega
      · rw [q3, t3] at e; exact absurd e.symm (nc u _ hu (by omega))
      · rw [q3, t3] at e; exact absurd e.symm (nc u2 _ a2 a4)
      · rw [q3, t3] at e; exact absurd e (nc u _ hu (by omega))
      · rw [q3, t3] at e; have := w2 u (p1 + 1) u (p2 + 1) hu hu (by omega) (by omega) e; omega
      · rw [q3, t3] at e; have := w2 u (p1 + 1) u2 p2 hu a2 (by omega) a4 e; omega
      · rw [q3, t3] at e; exact absurd e (nc u1 _ a1 a3)
      · rw [q3, t3] at e; have := w2 u1 p1 u (p2 + 1) a1 hu a3 (by omega) e; omega
      · rw [q3, t3] at e; exact w2 u1 p1 u2 p2 a1 a2 a3 a4 e
    · rw [hl _ _ (by omega) (by omega) (by omega)] at a2
      have := w3 x' a1 a2
      rw [L4, upf_ne _ _ (by intro e; subst e; exact h3 a2), upf_ne _ _ (by intro e; subst e; omega)]
      exact this
    · rw [hl _ _ (by omega) (by omega) (by omega), hl _ _ (by omega) (by omega) (by omega)]; exact w4 x' a1
    · rw [hl _ _ (by omega) (by omega) (by omega)]; exact w5 x' a1 a2
    · rw [hl _ _ (by omega) (by omega) (by omega), hl _ _ (by omega) (by omega) (by omega)] at a3; exact w6 j j' a1 a2 a3
    · obtain ⟨j, b1, b2⟩ := w7 x' a1; exact ⟨j, b1, by rw [hl _ _ (by omega) (by omega) (by omega)]; exact b2⟩
    · rw [hl _ _ (by omega) (by omega) (by omega)]
      obtain ⟨b1, b2, b3⟩ := w8 k a1
      refine ⟨b1, b2, fun y hy hby => ?_⟩
      have := b3 y hy hby
      rw [L4, upf_ne _ _ (by intro e; subst e; omega), upf_ne _ _ (by intro e; subst e; omega)]; exact this
    · rw [L6]; exact w9 x' a1 a2
    · rw [L6, L4, cnt_upf (by omega), cnt_upf (by omega), upf_ne _ _ (by omega), w10, h4, hx1]; simp [b2i]
    · rw [L4]; unfold upf; split
      · omega
      · split
        · omega
        · exact w11 x' a1
    · rw [hl _ _ (by omega) (by omega) (by omega)]; exact w12
