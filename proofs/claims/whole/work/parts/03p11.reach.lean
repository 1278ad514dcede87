/-! WHAT THE PURE MACHINE REACHES: the least family that is closed under its instructions -/
def MonoX (X : XT) : Prop := ∀ j pc L S sh c s σ (Q Q' : PQ), (∀ r sh σ, Q r sh σ → Q' r sh σ) → X j pc L S sh c s σ Q → X j pc L S sh c s σ Q'
theorem tsw_mono {x : Int} {pc : Nat} {k k' : Nat → Prop} (h : ∀ p, k p → k' p) : ∀ (os : List Int) (lo : Int), tsw x pc k lo os → tsw x pc k' lo os := by
  intro os
  induction os with
  | nil => intro lo _; trivial
  | cons o os ih => intro lo ⟨h1, h2⟩; exact ⟨fun e => h _ (h1 e), ih _ h2⟩
theorem lsw_mono {x : Int} {pc : Nat} {k k' : Nat → Prop} (h : ∀ p, k p → k' p) {d : Int} : ∀ (ps : List (Int × Int)), lsw x pc k d ps → lsw x pc k' d ps := by
  intro ps
  induction ps with
  | nil => intro h1; exact h _ h1
  | cons o ps ih => obtain ⟨a, o⟩ := o; intro ⟨h1, h2⟩; exact ⟨fun e => h _ (h1 e), fun e => ih (h2 e)⟩
theorem brP_mono {A B A' B' k : Prop} (h1 : A → A') (h2 : B → B') : brP A B k → brP A' B' k := fun h => ⟨fun e => h1 (h.1 e), fun e => h2 (h.2 e)⟩
set_option maxHeartbeats 4000000 in
theorem callW_mono {XC XC' X X' : XT} (hC : ∀ j pc L S sh c s σ Q, XC j pc L S sh c s σ Q → XC' j pc L S sh c s σ Q) (hX : ∀ j pc L S sh c s σ Q, X j pc L S sh c s σ Q → X' j pc L S sh c s σ Q) (hm : MonoX XC') {k j pc : Nat} {L : List (Option PV)} {S : List PV} {sh : Sh} {c s : Nat} {σ : Mm} {Q : PQ} (h : callW XC X k j pc L S sh c s σ Q) : callW XC' X' k j pc L S sh c s σ Q := by
  unfold callW at h ⊢
  split at h
  · exact h.elim
  · rename_i hb
    refine ⟨h.1, h.2.1, ?_⟩
    have h2 := h.2.2
    split at h2
    · exact hm _ _ _ _ _ _ _ _ _ _ (fun r sh σ q => ⟨q.1, hX _ _ _ _ _ _ _ _ _ q.2⟩) (hC _ _ _ _ _ _ _ _ _ h2)
    · exact hm _ _ _ _ _ _ _ _ _ _ (fun r sh σ q => by obtain ⟨v, q1, q2⟩ := q; exact ⟨v, q1, hX _ _ _ _ _ _ _ _ _ q2⟩) (hC _ _ _ _ _ _ _ _ _ h2)
    · exact hm _ _ _ _ _ _ _ _ _ _ (fun r sh σ q => by obtain ⟨v, q1, q2⟩ := q; exact ⟨v, q1, hX _ _ _ _ _ _ _ _ _ q2⟩) (hC _ _ _ _ _ _ _ _ _ h2)
theorem causeW_mono {X X' : XT} (hX : ∀ j pc L S sh c s σ Q, X j pc L S sh c s σ Q → X' j pc L S sh c s σ Q) {j pc : Nat} {L : List (Option PV)} {S : List PV} {sh : Sh} {c s : Nat} {σ : Mm} {Q : PQ} (h : causeW X j pc L S sh c s σ Q) : causeW X' j pc L S sh c s σ Q := by
  unfold causeW at h ⊢
  split at h
  · exact ⟨h.1, h.2.1, fun a => hX _ _ _ _ _ _ _ _ _ (h.2.2.1 a), fun a b d => hX _ _ _ _ _ _ _ _ _ (h.2.2.2.1 a b d), fun a b d e => ⟨(h.2.2.2.2 a b d e).1, hX _ _ _ _ _ _ _ _ _ (h.2.2.2.2 a b d e).2⟩⟩
  · exact h.elim
set_option maxHeartbeats 8000000 in
theorem wpI_mono {XC XC' X X' : XT} (hC : ∀ j pc L S sh c s σ Q, XC j pc L S sh c s σ Q → XC' j pc L S sh c s σ Q) (hX : ∀ j pc L S sh c s σ Q, X j pc L S sh c s σ Q → X' j pc L S sh c s σ Q) (hm : MonoX XC') {j pc : Nat} {L : List (Option PV)} {S : List PV} {sh : Sh} {c s : Nat} {σ : Mm} {Q : PQ} (ins : Instr) (h : wpI XC X j pc L S sh c s σ Q ins) : wpI XC' X' j pc L S sh c s σ Q ins := by
  cases ins <;> simp only [wpI, ldI, ldL, ldA, gd] at h ⊢ <;> repeat' (first | exact h.elim | exact hX _ _ _ _ _ _ _ _ _ h | exact ⟨h.1, hX _ _ _ _ _ _ _ _ _ h.2⟩ | exact ⟨h.1, h.2.1, hX _ _ _ _ _ _ _ _ _ h.2.2⟩ | exact brP_mono (hX _ _ _ _ _ _ _ _ _) (hX _ _ _ _ _ _ _ _ _) h | exact callW_mono hC hX hm h | exact causeW_mono hX h | exact h | exact ⟨fun e => hX _ _ _ _ _ _ _ _ _ (h.1 e), fun e => hX _ _ _ _ _ _ _ _ _ (h.2.1 e), fun e => hX _ _ _ _ _ _ _ _ _ (h.2.2 e)⟩ | exact ⟨fun e => hX _ _ _ _ _ _ _ _ _ (h.1 e), tsw_mono (fun p => hX _ _ _ _ _ _ _ _ _) _ _ h.2⟩ | exact lsw_mono (fun p => hX _ _ _ _ _ _ _ _ _) _ h | split at h)
theorem wp1_mono {XC XC' X X' : XT} (hC : ∀ j pc L S sh c s σ Q, XC j pc L S sh c s σ Q → XC' j pc L S sh c s σ Q) (hX : ∀ j pc L S sh c s σ Q, X j pc L S sh c s σ Q → X' j pc L S sh c s σ Q) (hm : MonoX XC') {j pc : Nat} {L : List (Option PV)} {S : List PV} {sh : Sh} {c s : Nat} {σ : Mm} {Q : PQ} (h : wp1 XC X j pc L S sh c s σ Q) : wp1 XC' X' j pc L S sh c s σ Q := by
  unfold wp1 at h ⊢
  split at h
  · exact wpI_mono hC hX hm _ h
  · exact h.elim
def rngV : PV → Prop
  | .inl z => -2147483648 ≤ z ∧ z < 2147483648
  | .inr (.inl z) => -9223372036854775808 ≤ z ∧ z < 9223372036854775808
  | _ => True
/-- all numbers are in their ranges -/
def rngC (L : List (Option PV)) (S : List PV) (σ : Mm) : Prop := (∀ v, some v ∈ L → rngV v) ∧ (∀ v, v ∈ S → rngV v) ∧ (∀ a b, -2147483648 ≤ σ.1 a b ∧ σ.1 a b < 2147483648) ∧ (∀ a b, -9223372036854775808 ≤ σ.2 a b ∧ σ.2 a b < 9223372036854775808)
def ClosedX (X : XT) : Prop := MonoX X ∧ (∀ j pc L S sh c s σ Q, wp1 X X j pc L S sh c s σ Q → X j pc L S sh c s σ Q) ∧ (∀ j pc L S sh c s σ Q, X j pc L S (shut sh) c s σ Q → X j pc L S sh c s σ Q) ∧ (∀ j pc L S sh c s σ Q, (rngC L S σ → X j pc L S sh c s σ Q) → X j pc L S sh c s σ Q)
def R : XT := fun j pc L S sh c s σ Q => ∀ X : XT, ClosedX X → X j pc L S sh c s σ Q
theorem R_mono : MonoX R := fun j pc L S sh c s σ Q Q' hq h X hX => hX.1 j pc L S sh c s σ Q Q' hq (h X hX)
theorem R_step {j pc : Nat} {L : List (Option PV)} {S : List PV} {sh : Sh} {c s : Nat} {σ : Mm} {Q : PQ} (h : wp1 R R j pc L S sh c s σ Q) : R j pc L S sh c s σ Q :=
  fun X hX => hX.2.1 _ _ _ _ _ _ _ _ _ (wp1_mono (fun _ _ _ _ _ _ _ _ _ q => q X hX) (fun _ _ _ _ _ _ _ _ _ q => q X hX) hX.1 h)
theorem R_shut {j pc : Nat} {L : List (Option PV)} {S : List PV} {sh : Sh} {c s : Nat} {σ : Mm} {Q : PQ} (h : R j pc L S (shut sh) c s σ Q) : R j pc L S sh c s σ Q := fun X hX => hX.2.2.1 _ _ _ _ _ _ _ _ _ (h X hX)
theorem R_rng {j pc : Nat} {L : List (Option PV)} {S : List PV} {sh : Sh} {c s : Nat} {σ : Mm} {Q : PQ} (h : rngC L S σ → R j pc L S sh c s σ Q) : R j pc L S sh c s σ Q := fun X hX => hX.2.2.2 _ _ _ _ _ _ _ _ _ (fun q => h q X hX)
def wpn : Nat → List Nat → XT
  | 0, _ => R
  | n + 1, st => wp1 R (fun j pc L S sh c s σ Q => match st.elem pc with
    | true => R j pc L S sh c s σ Q
    | false => wpn n st j pc L S sh c s σ Q)
theorem wpn_R : ∀ (n : Nat) (st : List Nat) {j pc : Nat} {L : List (Option PV)} {S : List PV} {sh : Sh} {c s : Nat} {σ : Mm} {Q : PQ}, wpn n st j pc L S sh c s σ Q → R j pc L S sh c s σ Q := by
  intro n
  induction n with
  | zero => intro st j pc L S sh c s σ Q h; exact h
  | succ n ih =>
    intro st j pc L S sh c s σ Q h
    refine R_step (wp1_mono (fun _ _ _ _ _ _ _ _ _ q => q) (fun j pc L S sh c s σ Q q => ?_) R_mono h)
    revert q
    show (match st.elem pc with | true => R j pc L S sh c s σ Q | false => wpn n st j pc L S sh c s σ Q) → R j pc L S sh c s σ Q
    cases st.elem pc
    · exact fun q => ih st q
    · exact fun q => q
