/-! CALLS THAT LEAVE THE SHAPE AS IT IS, and many instructions at once -/
abbrev lp (k : Nat) (as : List PV) : List (Option PV) := pad (maxLN k) (lo as)
def Ci (k : Nat) (as : List PV) (sh : Sh) (σ : Mm) (P : Int → Mm → Prop) : Prop := R k 0 (lp k as) [] sh 0 0 σ (fun r sh' σ' => sh' = sh ∧ ∃ v, r = some (vi v) ∧ P v σ')
def Cl (k : Nat) (as : List PV) (sh : Sh) (σ : Mm) (P : Int → Mm → Prop) : Prop := R k 0 (lp k as) [] sh 0 0 σ (fun r sh' σ' => sh' = sh ∧ ∃ v, r = some (vl v) ∧ P v σ')
def Cv (k : Nat) (as : List PV) (sh : Sh) (σ : Mm) (P : Mm → Prop) : Prop := R k 0 (lp k as) [] sh 0 0 σ (fun r sh' σ' => sh' = sh ∧ r = none ∧ P σ')
theorem Ci_mono {k : Nat} {as : List PV} {sh : Sh} {σ : Mm} {P P' : Int → Mm → Prop} (h : Ci k as sh σ P) (hp : ∀ v σ', P v σ' → P' v σ') : Ci k as sh σ P' :=
  R_mono _ _ _ _ _ _ _ _ _ _ (fun r sh' σ' q => by obtain ⟨q1, v, q2, q3⟩ := q; exact ⟨q1, v, q2, hp _ _ q3⟩) h
theorem Cl_mono {k : Nat} {as : List PV} {sh : Sh} {σ : Mm} {P P' : Int → Mm → Prop} (h : Cl k as sh σ P) (hp : ∀ v σ', P v σ' → P' v σ') : Cl k as sh σ P' :=
  R_mono _ _ _ _ _ _ _ _ _ _ (fun r sh' σ' q => by obtain ⟨q1, v, q2, q3⟩ := q; exact ⟨q1, v, q2, hp _ _ q3⟩) h
theorem Cv_mono {k : Nat} {as : List PV} {sh : Sh} {σ : Mm} {P P' : Mm → Prop} (h : Cv k as sh σ P) (hp : ∀ σ', P σ' → P' σ') : Cv k as sh σ P' :=
  R_mono _ _ _ _ _ _ _ _ _ _ (fun r sh' σ' q => by obtain ⟨q1, q2, q3⟩ := q; exact ⟨q1, q2, hp _ q3⟩) h
def callN (X : XT) (k j pc : Nat) (L : List (Option PV)) (S : List PV) (sh : Sh) (c s : Nat) (σ : Mm) (Q : PQ) : Prop :=
  match cg k S, Nat.ble (c + mcN k) (mcN j), Nat.ble (s + msN k) (msN j) with
  | true, true, true => match retN k with
    | 0 => Cv k (rev (S.take (nargN k)) []) sh σ (fun σ' => X j (pc + 3) L (S.drop (nargN k)) sh (c + mcN k) (s + msN k) σ' Q)
    | 2 => Cl k (rev (S.take (nargN k)) []) sh σ (fun v σ' => X j (pc + 3) L (vl v :: S.drop (nargN k)) sh (c + mcN k) (s + msN k) σ' Q)
    | _ => Ci k (rev (S.take (nargN k)) []) sh σ (fun v σ' => X j (pc + 3) L (vi v :: S.drop (nargN k)) sh (c + mcN k) (s + msN k) σ' Q)
  | _, _, _ => False
theorem callN_W {X : XT} {k j pc : Nat} {L : List (Option PV)} {S : List PV} {sh : Sh} {c s : Nat} {σ : Mm} {Q : PQ} (h : callN X k j pc L S sh c s σ Q) : callW R X k j pc L S sh c s σ Q := by
  unfold callN at h
  unfold callW
  split at h
  · rename_i h1 h2 h3
    rw [h1]
    refine ⟨Nat.le_of_ble_eq_true h2, Nat.le_of_ble_eq_true h3, ?_⟩
    revert h
    generalize retN k = rk
    intro h
    match rk, h with
    | 0, h => exact R_mono _ _ _ _ _ _ _ _ _ _ (fun r sh' σ' q => by obtain ⟨q1, q2, q3⟩ := q; rw [q1]; exact ⟨q2, q3⟩) h
    | 1, h => exact R_mono _ _ _ _ _ _ _ _ _ _ (fun r sh' σ' q => by obtain ⟨q1, v, q2, q3⟩ := q; rw [q1]; exact ⟨v, q2, q3⟩) h
    | 2, h => exact R_mono _ _ _ _ _ _ _ _ _ _ (fun r sh' σ' q => by obtain ⟨q1, v, q2, q3⟩ := q; rw [q1]; exact ⟨v, q2, q3⟩) h
    | _ + 3, h => exact R_mono _ _ _ _ _ _ _ _ _ _ (fun r sh' σ' q => by obtain ⟨q1, v, q2, q3⟩ := q; rw [q1]; exact ⟨v, q2, q3⟩) h
  · exact h.elim
def wpIN (X : XT) (j pc : Nat) (L : List (Option PV)) (S : List PV) (sh : Sh) (c s : Nat) (σ : Mm) (Q : PQ) (ins : Instr) : Prop := match ins with
  | .invokevirtual i => match poolAt t_meth (ownN j) i with
    | some k => match Nat.blt k 1000, rcv sh k (rev (S.take (nargN k)) []) with
      | true, true => callN X k j pc L S sh c s σ Q
      | _, _ => wpI R X j pc L S sh c s σ Q ins
    | none => False
  | .invokespecial i => match poolAt t_meth (ownN j) i with
    | some k => match Nat.blt k 1000, rcv sh k (rev (S.take (nargN k)) []) with
      | true, true => callN X k j pc L S sh c s σ Q
      | _, _ => wpI R X j pc L S sh c s σ Q ins
    | none => False
  | .invokestatic i => match poolAt t_meth (ownN j) i with
    | some k => match Nat.blt k 1000, Nat.beq k 275 with
      | true, false => callN X k j pc L S sh c s σ Q
      | _, _ => wpI R X j pc L S sh c s σ Q ins
    | none => False
  | _ => wpI R X j pc L S sh c s σ Q ins
theorem wpIN_I {X : XT} {j pc : Nat} {L : List (Option PV)} {S : List PV} {sh : Sh} {c s : Nat} {σ : Mm} {Q : PQ} {ins : Instr} (h : wpIN X j pc L S sh c s σ Q ins) : wpI R X j pc L S sh c s σ Q ins := by
  unfold wpIN at h
  split at h
  · split at h
    · rename_i k hk
      split at h
      · rename_i hb hr
        have hb := Nat.le_of_ble_eq_true hb
        simp only [wpI, hk]
        split
        · omega
        · omega
        · rw [hr]; exact callN_W h
      · exact h
    · exact h.elim
  · split at h
    · rename_i k hk
      split at h
      · rename_i hb hr
        have hb := Nat.le_of_ble_eq_true hb
        simp only [wpI, hk]
        split
        · omega
        · rw [hr]; exact callN_W h
      · exact h
    · exact h.elim
  · split at h
    · rename_i k hk
      split at h
      · rename_i hb hr
        have hb := Nat.le_of_ble_eq_true hb
        have hr := Nat.ne_of_beq_eq_false hr
        simp only [wpI, hk]
        split
        all_goals first | omega | exact callN_W h
      · exact h
    · exact h.elim
  · exact h
def wpN : Nat → List Nat → XT
  | 0, _ => R
  | n + 1, st => fun j pc L S sh c s σ Q => match insAt j pc with
    | some i => wpIN (fun j pc L S sh c s σ Q => match st.elem pc with
      | true => R j pc L S sh c s σ Q
      | false => wpN n st j pc L S sh c s σ Q) j pc L S sh c s σ Q i
    | none => False
theorem wpN_R : ∀ (n : Nat) (st : List Nat) {j pc : Nat} {L : List (Option PV)} {S : List PV} {sh : Sh} {c s : Nat} {σ : Mm} {Q : PQ}, wpN n st j pc L S sh c s σ Q → R j pc L S sh c s σ Q := by
  intro n
  induction n with
  | zero => intro st j pc L S sh c s σ Q h; exact h
  | succ n ih =>
    intro st j pc L S sh c s σ Q h
    refine R_step ?_
    unfold wpN at h
    unfold wp1
    split at h
    · rename_i i hi
      rw [hi]
      refine wpI_mono (fun _ _ _ _ _ _ _ _ _ q => q) (fun j pc L S sh c s σ Q q => ?_) R_mono _ (wpIN_I h)
      revert q
      show (match st.elem pc with | true => R j pc L S sh c s σ Q | false => wpN n st j pc L S sh c s σ Q) → R j pc L S sh c s σ Q
      cases st.elem pc
      · exact fun q => ih st q
      · exact fun q => q
    · exact h.elim
theorem ret0 {j n : Nat} : retOK j (shF n) 0 0 := ⟨Nat.zero_le _, Nat.zero_le _, fun h => Bool.noConfusion h⟩
