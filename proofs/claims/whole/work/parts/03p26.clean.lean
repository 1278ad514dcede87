/-! NUMBERS WITHOUT WRAP-AROUND: where a sum stays in its range it is the plain one -/
def rg (z : Int) : Prop := -2147483648 ≤ z ∧ z < 2147483648
def rgl (z : Int) : Prop := -9223372036854775808 ≤ z ∧ z < 9223372036854775808
def iabs (z : Int) : Int := if 0 ≤ z then z else -z
theorem w32_rg {z : Int} (h : rg z) : w32 z = z := by
  unfold rg at h
  unfold w32
  rw [Int.bmod_def]
  omega
theorem w64_rg {z : Int} (h : rgl z) : w64 z = z := by
  unfold rgl at h
  unfold w64
  rw [Int.bmod_def]
  omega
def wpIK (X : XT) (j pc : Nat) (L : List (Option PV)) (S : List PV) (sh : Sh) (c s : Nat) (σ : Mm) (Q : PQ) (ins : Instr) : Prop := match ins with
  | .iinc i n => match L[i]? with
    | some (some (.inl a)) => rg (a + n) ∧ X j (pc + 3) (st1 L i (.inl (a + n))) S sh c s σ Q
    | _ => False
  | .iadd => match S with
    | .inl b :: .inl a :: S' => rg (a + b) ∧ X j (pc + 1) L (.inl (a + b) :: S') sh c s σ Q
    | _ => False
  | .isub => match S with
    | .inl b :: .inl a :: S' => rg (a - b) ∧ X j (pc + 1) L (.inl (a - b) :: S') sh c s σ Q
    | _ => False
  | .imul => match S with
    | .inl b :: .inl a :: S' => rg (a * b) ∧ X j (pc + 1) L (.inl (a * b) :: S') sh c s σ Q
    | _ => False
  | .idiv => match S with
    | .inl b :: .inl a :: S' => (0 ≤ a ∧ a < 2147483648 ∧ 0 < b) ∧ X j (pc + 1) L (.inl (a / b) :: S') sh c s σ Q
    | _ => False
  | .irem => match S with
    | .inl b :: .inl a :: S' => (0 ≤ a ∧ 0 < b) ∧ X j (pc + 1) L (.inl (a % b) :: S') sh c s σ Q
    | _ => False
  | .ineg => match S with
    | .inl a :: S' => rg (-a) ∧ X j (pc + 1) L (.inl (-a) :: S') sh c s σ Q
    | _ => False
  | .ladd => match S with
    | .inr (.inl b) :: .inr (.inl a) :: S' => rgl (a + b) ∧ X j (pc + 1) L (.inr (.inl (a + b)) :: S') sh c s σ Q
    | _ => False
  | .lsub => match S with
    | .inr (.inl b) :: .inr (.inl a) :: S' => rgl (a - b) ∧ X j (pc + 1) L (.inr (.inl (a - b)) :: S') sh c s σ Q
    | _ => False
  | .lmul => match S with
    | .inr (.inl b) :: .inr (.inl a) :: S' => rgl (a * b) ∧ X j (pc + 1) L (.inr (.inl (a * b)) :: S') sh c s σ Q
    | _ => False
  | .ldiv => match S with
    | .inr (.inl b) :: .inr (.inl a) :: S' => (b ≠ 0 ∧ rgl (Int.tdiv a b)) ∧ X j (pc + 1) L (.inr (.inl (Int.tdiv a b)) :: S') sh c s σ Q
    | _ => False
  | .lrem => match S with
    | .inr (.inl b) :: .inr (.inl a) :: S' => (0 ≤ a ∧ 0 < b) ∧ X j (pc + 1) L (.inr (.inl (a % b)) :: S') sh c s σ Q
    | _ => False
  | .lneg => match S with
    | .inr (.inl a) :: S' => rgl (-a) ∧ X j (pc + 1) L (.inr (.inl (-a)) :: S') sh c s σ Q
    | _ => False
  | .l2i => match S with
    | .inr (.inl a) :: S' => rg a ∧ X j (pc + 1) L (.inl a :: S') sh c s σ Q
    | _ => False
  | .invokestatic i => match poolAt t_meth (ownN j) i with
    | some k => match Nat.beq k 1002, Nat.beq k 1003 with
      | true, _ => match S with
        | .inl a :: S' => gd S' ((-2147483648 < a ∧ a < 2147483648) ∧ X j (pc + 3) L (.inl (iabs a) :: S') sh c s σ Q)
        | _ => False
      | _, true => match S with
        | .inr (.inl a) :: S' => gd S' ((-9223372036854775808 < a ∧ a < 9223372036854775808) ∧ X j (pc + 3) L (.inr (.inl (iabs a)) :: S') sh c s σ Q)
        | _ => False
      | _, _ => wpIN X j pc L S sh c s σ Q ins
    | none => False
  | _ => wpIN X j pc L S sh c s σ Q ins
theorem tdiv_nn {a b : Int} (h : 0 ≤ a) : Int.tdiv a b = a / b := Int.tdiv_eq_ediv_of_nonneg h
theorem tmod_nn {a b : Int} (h : 0 ≤ a) : Int.tmod a b = a % b := Int.tmod_eq_emod_of_nonneg h
theorem div_rg {a b : Int} (h : 0 ≤ a ∧ a < 2147483648 ∧ 0 < b) : rg (a / b) := by
  have h1 : 0 ≤ a / b := Int.ediv_nonneg h.1 (by omega)
  have h2 : a / b ≤ a := Int.ediv_le_self b h.1
  unfold rg
  omega
theorem gd_mono {S : List PV} {A B : Prop} (h : A → B) (hg : gd S A) : gd S B := by
  unfold gd at hg ⊢
  split at hg
  · exact h hg
  · exact hg.elim
theorem abs_i {a : Int} (h : -2147483648 < a ∧ a < 2147483648) : iabs a = (if 0 ≤ a then a else w32 (0 - a)) := by
  unfold iabs
  split
  · rfl
  · rw [w32_rg (by unfold rg; omega)]; omega
theorem abs_l {a : Int} (h : -9223372036854775808 < a ∧ a < 9223372036854775808) : iabs a = (if 0 < a then a else w64 (-a)) := by
  unfold iabs
  rw [w64_rg (z := -a) (by unfold rgl; omega)]
  split <;> split <;> omega
set_option maxHeartbeats 8000000 in
theorem wpIK_N {X : XT} {j pc : Nat} {L : List (Option PV)} {S : List PV} {sh : Sh} {c s : Nat} {σ : Mm} {Q : PQ} {ins : Instr} (h : wpIK X j pc L S sh c s σ Q ins) : wpI R X j pc L S sh c s σ Q ins := by
  unfold wpIK at h
  split at h
  · split at h
    · rename_i heq
      simp only [wpI, heq]
      rw [w32_rg h.1]; exact h.2
    · exact h.elim
  · split at h
    · simp only [wpI]
      rw [w32_rg h.1]; exact h.2
    · exact h.elim
  · split at h
    · simp only [wpI]
      rw [w32_rg h.1]; exact h.2
    · exact h.elim
  · split at h
    · simp only [wpI]
      rw [w32_rg h.1]; exact h.2
    · exact h.elim
  · split at h
    · simp only [wpI]
      rw [tdiv_nn h.1.1, w32_rg (div_rg h.1)]; exact ⟨by have := h.1; omega, h.2⟩
    · exact h.elim
  · split at h
    · simp only [wpI]
      rw [tmod_nn h.1.1]; exact ⟨by have := h.1; omega, h.2⟩
    · exact h.elim
  · split at h
    · simp only [wpI]
      rw [w32_rg h.1]; exact h.2
    · exact h.elim
  · split at h
    · simp only [wpI]
      rw [w64_rg h.1]; exact h.2
    · exact h.elim
  · split at h
    · simp only [wpI]
      rw [w64_rg h.1]; exact h.2
    · exact h.elim
  · split at h
    · simp only [wpI]
      rw [w64_rg h.1]; exact h.2
    · exact h.elim
  · split at h
    · simp only [wpI]
      rw [w64_rg h.1.2]; exact ⟨h.1.1, h.2⟩
    · exact h.elim
  · split at h
    · simp only [wpI]
      rw [tmod_nn h.1.1]; exact ⟨by have := h.1; omega, h.2⟩
    · exact h.elim
  · split at h
    · simp only [wpI]
      rw [w64_rg h.1]; exact h.2
    · exact h.elim
  · split at h
    · simp only [wpI]
      rw [w32_rg h.1]; exact h.2
    · exact h.elim
  · split at h
    · rename_i k hk
      split at h
      · rename_i hbX
        have hb := Nat.eq_of_beq_eq_true hbX
        subst hb
        split at h
        · simp only [wpI, hk]
          exact gd_mono (fun q => by rw [← abs_i q.1]; exact q.2) h
        · exact h.elim
      · rename_i hb _
        have hb := Nat.eq_of_beq_eq_true hb
        subst hb
        split at h
        · simp only [wpI, hk]
          exact gd_mono (fun q => by rw [← abs_l q.1]; exact q.2) h
        · exact h.elim
      · exact wpIN_I h
    · exact h.elim
  · exact wpIN_I h
def wpK : Nat → List Nat → XT
  | 0, _ => R
  | n + 1, st => fun j pc L S sh c s σ Q => match insAt j pc with
    | some i => wpIK (fun j pc L S sh c s σ Q => match st.elem pc with
      | true => R j pc L S sh c s σ Q
      | false => wpK n st j pc L S sh c s σ Q) j pc L S sh c s σ Q i
    | none => False
theorem wpK_R : ∀ (n : Nat) (st : List Nat) {j pc : Nat} {L : List (Option PV)} {S : List PV} {sh : Sh} {c s : Nat} {σ : Mm} {Q : PQ}, wpK n st j pc L S sh c s σ Q → R j pc L S sh c s σ Q := by
  intro n
  induction n with
  | zero => intro st j pc L S sh c s σ Q h; exact h
  | succ n ih =>
    intro st j pc L S sh c s σ Q h
    refine R_step ?_
    unfold wpK at h
    unfold wp1
    split at h
    · rename_i i hi
      rw [hi]
      refine wpI_mono (fun _ _ _ _ _ _ _ _ _ q => q) (fun j pc L S sh c s σ Q q => ?_) R_mono _ (wpIK_N h)
      revert q
      show (match st.elem pc with | true => R j pc L S sh c s σ Q | false => wpK n st j pc L S sh c s σ Q) → R j pc L S sh c s σ Q
      cases st.elem pc
      · exact fun q => ih st q
      · exact fun q => q
    · exact h.elim
abbrev Qi (sh : Sh) (P : Int → Mm → Prop) : PQ := fun r sh' σ' => sh' = sh ∧ ∃ v, r = some (vi v) ∧ P v σ'
abbrev Ql (sh : Sh) (P : Int → Mm → Prop) : PQ := fun r sh' σ' => sh' = sh ∧ ∃ v, r = some (vl v) ∧ P v σ'
abbrev Qv (sh : Sh) (P : Mm → Prop) : PQ := fun r sh' σ' => sh' = sh ∧ r = none ∧ P σ'
/-! reading behind writing -/
theorem gi_si (σ : Mm) (k i a b : Nat) (v : Int) : gi (si σ k i v) a b = if a = k ∧ b = i then v else gi σ a b := rfl
theorem gi_same (σ : Mm) (k i b : Nat) (v : Int) : gi (si σ k i v) k b = if b = i then v else gi σ k b := by
  rw [gi_si]; simp
theorem gi_hit (σ : Mm) (k i : Nat) (v : Int) : gi (si σ k i v) k i = v := by rw [gi_si]; simp
theorem gi_ne {k a : Nat} (h : a ≠ k) (σ : Mm) (i b : Nat) (v : Int) : gi (si σ k i v) a b = gi σ a b := by
  rw [gi_si, if_neg (fun q => h q.1)]
theorem gi_sl (σ : Mm) (k i a b : Nat) (v : Int) : gi (sl σ k i v) a b = gi σ a b := rfl
theorem gl_si (σ : Mm) (k i a b : Nat) (v : Int) : gl (si σ k i v) a b = gl σ a b := rfl
theorem gl_sl (σ : Mm) (k i a b : Nat) (v : Int) : gl (sl σ k i v) a b = if a = k ∧ b = i then v else gl σ a b := rfl
theorem gl_ne {k a : Nat} (h : a ≠ k) (σ : Mm) (i b : Nat) (v : Int) : gl (sl σ k i v) a b = gl σ a b := by
  rw [gl_sl, if_neg (fun q => h q.1)]
theorem gl_same (σ : Mm) (k i b : Nat) (v : Int) : gl (sl σ k i v) k b = if b = i then v else gl σ k b := by
  rw [gl_sl]; simp
theorem gl_hit (σ : Mm) (k i : Nat) (v : Int) : gl (sl σ k i v) k i = v := by rw [gl_sl]; simp
theorem gi_cp (σ : Mm) (k i a b n x y : Nat) : gi (cp σ k i a b n) x y = if x = a ∧ b ≤ y ∧ y < b + n then gi σ k (i + (y - b)) else gi σ x y := rfl
theorem gl_cp (σ : Mm) (k i a b n x y : Nat) : gl (cp σ k i a b n) x y = gl σ x y := rfl
