/-! THE LAW'S OWN CATCH: the one call that may throw -/
def cchkJ (j : Nat) : Bool := match ch j t_code with
  | some k => k.all (fun r => r.all (fun o => match o with
    | some (.invokestatic i) => match poolAt t_meth (ownN j) i with
      | some 275 => Nat.beq j 276
      | _ => true
    | _ => true))
  | none => true
set_option maxRecDepth 100000 in
theorem cchkJ_all0 : ∀ j, j < 288 → cchkJ j = true := by decide +kernel
theorem cchkJ_ok {j pc i : Nat} (h : insAt j pc = some (.invokestatic i)) (hp : poolAt t_meth (ownN j) i = some 275) : j = 276 := by
  have hj := (code_ok h).1
  have hx := cchkJ_all0 j (by omega)
  unfold cchkJ at hx
  unfold insAt at h
  split at h
  · rename_i kk hkk
    rw [hkk] at hx
    simp only at hx
    split at h
    · rename_i x hx2
      subst h
      unfold ch at hx2
      split at hx2
      · rename_i r hr
        have h1 := List.all_eq_true.mp hx _ (List.mem_of_getElem? hr)
        have h2 := List.all_eq_true.mp h1 _ (List.mem_of_getElem? hx2)
        simp only [hp] at h2
        exact Nat.eq_of_beq_eq_true h2
      · cases hx2
    · cases h
  · cases h
/-! a bridge for all methods but the law itself -/
set_option maxHeartbeats 4000000 in
theorem callW_monoJ {XC XC' X X' : XT} {j : Nat} (hC : ∀ k pc L S sh c s σ Q, k ≠ 276 → XC k pc L S sh c s σ Q → XC' k pc L S sh c s σ Q) (hX : ∀ pc L S sh c s σ Q, X j pc L S sh c s σ Q → X' j pc L S sh c s σ Q) (hm : MonoX XC') {k pc : Nat} {L : List (Option PV)} {S : List PV} {sh : Sh} {c s : Nat} {σ : Mm} {Q : PQ} (h : callW XC X k j pc L S sh c s σ Q) : callW XC' X' k j pc L S sh c s σ Q := by
  unfold callW at h ⊢
  split at h
  · exact h.elim
  · rename_i hb
    have hk : k ≠ 276 := by
      unfold cg okK at hb
      simp only [Bool.and_eq_true, Bool.not_eq_true'] at hb
      exact Nat.ne_of_beq_eq_false hb.1.2.2
    refine ⟨h.1, h.2.1, ?_⟩
    have h2 := h.2.2
    split at h2
    · exact hm _ _ _ _ _ _ _ _ _ _ (fun r sh σ q => ⟨q.1, hX _ _ _ _ _ _ _ _ q.2⟩) (hC _ _ _ _ _ _ _ _ _ hk h2)
    · exact hm _ _ _ _ _ _ _ _ _ _ (fun r sh σ q => by obtain ⟨v, q1, q2⟩ := q; exact ⟨v, q1, hX _ _ _ _ _ _ _ _ q2⟩) (hC _ _ _ _ _ _ _ _ _ hk h2)
    · exact hm _ _ _ _ _ _ _ _ _ _ (fun r sh σ q => by obtain ⟨v, q1, q2⟩ := q; exact ⟨v, q1, hX _ _ _ _ _ _ _ _ q2⟩) (hC _ _ _ _ _ _ _ _ _ hk h2)
theorem causeW_monoJ {X X' : XT} {j : Nat} (hX : ∀ pc L S sh c s σ Q, X j pc L S sh c s σ Q → X' j pc L S sh c s σ Q) {pc : Nat} {L : List (Option PV)} {S : List PV} {sh : Sh} {c s : Nat} {σ : Mm} {Q : PQ} (h : causeW X j pc L S sh c s σ Q) : causeW X' j pc L S sh c s σ Q := by
  unfold causeW at h ⊢
  split at h
  · exact ⟨h.1, h.2.1, fun a => hX _ _ _ _ _ _ _ _ (h.2.2.1 a), fun a b d => hX _ _ _ _ _ _ _ _ (h.2.2.2.1 a b d), fun a b d e => ⟨(h.2.2.2.2 a b d e).1, hX _ _ _ _ _ _ _ _ (h.2.2.2.2 a b d e).2⟩⟩
  · exact h.elim
set_option maxHeartbeats 8000000 in
theorem wpI_monoJ {XC XC' X X' : XT} {j : Nat} (hC : ∀ k pc L S sh c s σ Q, k ≠ 276 → XC k pc L S sh c s σ Q → XC' k pc L S sh c s σ Q) (hX : ∀ pc L S sh c s σ Q, X j pc L S sh c s σ Q → X' j pc L S sh c s σ Q) (hm : MonoX XC') {pc : Nat} {L : List (Option PV)} {S : List PV} {sh : Sh} {c s : Nat} {σ : Mm} {Q : PQ} (ins : Instr) (h : wpI XC X j pc L S sh c s σ Q ins) : wpI XC' X' j pc L S sh c s σ Q ins := by
  cases ins <;> simp only [wpI, ldI, ldL, ldA, gd] at h ⊢ <;> repeat' (first | exact h.elim | exact hX _ _ _ _ _ _ _ _ h | exact ⟨h.1, hX _ _ _ _ _ _ _ _ h.2⟩ | exact ⟨h.1, h.2.1, hX _ _ _ _ _ _ _ _ h.2.2⟩ | exact brP_mono (hX _ _ _ _ _ _ _ _) (hX _ _ _ _ _ _ _ _) h | exact callW_monoJ hC hX hm h | exact causeW_monoJ hX h | exact h | exact ⟨fun e => hX _ _ _ _ _ _ _ _ (h.1 e), fun e => hX _ _ _ _ _ _ _ _ (h.2.1 e), fun e => hX _ _ _ _ _ _ _ _ (h.2.2 e)⟩ | exact ⟨fun e => hX _ _ _ _ _ _ _ _ (h.1 e), tsw_mono (fun p => hX _ _ _ _ _ _ _ _) _ _ h.2⟩ | exact lsw_mono (fun p => hX _ _ _ _ _ _ _ _) _ h | split at h)
theorem wp1_monoJ {XC XC' X X' : XT} {j : Nat} (hC : ∀ k pc L S sh c s σ Q, k ≠ 276 → XC k pc L S sh c s σ Q → XC' k pc L S sh c s σ Q) (hX : ∀ pc L S sh c s σ Q, X j pc L S sh c s σ Q → X' j pc L S sh c s σ Q) (hm : MonoX XC') {pc : Nat} {L : List (Option PV)} {S : List PV} {sh : Sh} {c s : Nat} {σ : Mm} {Q : PQ} (h : wp1 XC X j pc L S sh c s σ Q) : wp1 XC' X' j pc L S sh c s σ Q := by
  unfold wp1 at h ⊢
  split at h
  · exact wpI_monoJ hC hX hm _ h
  · exact h.elim
def SemJ : XT := fun j pc L S sh c s σ Q => j ≠ 276 → SemX j pc L S sh c s σ Q
theorem bridge_not {j pc : Nat} {L : List (Option PV)} {S : List PV} {sh : Sh} {c s : Nat} {σ : Mm} {Q : PQ} (hj : j ≠ 276) (h : R j pc L S sh c s σ Q) : SemX j pc L S sh c s σ Q :=
  h SemJ ⟨fun _ _ _ _ _ _ _ _ _ _ hq q hj => sem_mono _ _ _ _ _ _ _ _ _ _ hq (q hj), fun j pc L S sh c s σ Q q hj => sound_step str_ok j pc L S sh c s σ Q (fun i h1 h2 => absurd (cchkJ_ok h1 h2) hj) (wp1_monoJ (fun k _ _ _ _ _ _ _ _ hk q => q hk) (fun _ _ _ _ _ _ _ _ q => q hj) sem_mono q), fun j pc L S sh c s σ Q q hj => sem_shut j pc L S sh c s σ Q (q hj), fun j pc L S sh c s σ Q q hj => sem_rng j pc L S sh c s σ Q (fun w => q w hj)⟩ hj
/-! what the pure machine does there -/
theorem isc_0 {a k : Int} (h : a < 0 ∨ k ≤ a) : (0 : Int) = if 0 ≤ a ∧ a < k then 1 else 0 := by rw [if_neg (by omega)]
theorem isc_1 {a k : Int} (h : 0 ≤ a ∧ a < k) : (1 : Int) = if 0 ≤ a ∧ a < k then 1 else 0 := by rw [if_pos h]
abbrev iscQ (n : Nat) (σ : Mm) (a : Int) : PQ := fun r sh' σ' => sh' = shF n ∧ σ' = σ ∧ r = some (vi (if 0 ≤ a ∧ a < gi σ 5 1 then 1 else 0))
theorem r_isc {n : Nat} {σ : Mm} {a : Int} : R 104 0 [some (vr 3), some (vi a)] [] (shF n) 0 0 σ (iscQ n σ a) :=
  wpK_R 10 [] (And.intro (fun q1 => And.intro ret0 (And.intro (Or.inl rfl) ⟨rfl, rfl, congrArg (fun z => some (vi z)) (isc_0 (Or.inl q1))⟩)) (fun q1 => And.intro (fun q2 => And.intro ret0 (And.intro (Or.inl rfl) ⟨rfl, rfl, congrArg (fun z => some (vi z)) (isc_0 (Or.inr q2))⟩)) (fun q2 => And.intro ret0 (And.intro (Or.inr rfl) ⟨rfl, rfl, congrArg (fun z => some (vi z)) (isc_1 ⟨Int.not_lt.mp q1, Int.not_le.mp q2⟩)⟩))))
abbrev caR (n : Nat) (σ : Mm) (a b : Int) : PQ := fun r sh' σ' => sh' = shF n ∧ σ' = σ ∧ r = some (vi (causeV σ a b))
theorem r_ca {n : Nat} {σ : Mm} {a b : Int} (ha : 0 ≤ a ∧ a < 10) (hb : 0 ≤ b ∧ b ≤ 5) : R 107 18 [some (vr 3), some (vi a), some (vi b)] [] (shF n) 0 0 σ (caR n σ a b) := by
  have h6 : b = 0 ∨ b = 1 ∨ b = 2 ∨ b = 3 ∨ b = 4 ∨ b = 5 := by omega
  rcases h6 with rfl | rfl | rfl | rfl | rfl | rfl
  · exact wpK_R 8 [] (And.intro (fun q => absurd q (by decide)) (And.intro (fun _ => And.intro ha (And.intro ret0 ⟨rfl, rfl, rfl⟩)) (And.intro (fun q => absurd q (by decide)) (And.intro (fun q => absurd q (by decide)) (And.intro (fun q => absurd q (by decide)) (And.intro (fun q => absurd q (by decide)) (And.intro (fun q => absurd q (by decide)) trivial)))))))
  · exact wpK_R 8 [] (And.intro (fun q => absurd q (by decide)) (And.intro (fun q => absurd q (by decide)) (And.intro (fun _ => And.intro ha (And.intro ret0 ⟨rfl, rfl, rfl⟩)) (And.intro (fun q => absurd q (by decide)) (And.intro (fun q => absurd q (by decide)) (And.intro (fun q => absurd q (by decide)) (And.intro (fun q => absurd q (by decide)) trivial)))))))
  · exact wpK_R 8 [] (And.intro (fun q => absurd q (by decide)) (And.intro (fun q => absurd q (by decide)) (And.intro (fun q => absurd q (by decide)) (And.intro (fun _ => And.intro ha (And.intro ret0 ⟨rfl, rfl, rfl⟩)) (And.intro (fun q => absurd q (by decide)) (And.intro (fun q => absurd q (by decide)) (And.intro (fun q => absurd q (by decide)) trivial)))))))
  · exact wpK_R 8 [] (And.intro (fun q => absurd q (by decide)) (And.intro (fun q => absurd q (by decide)) (And.intro (fun q => absurd q (by decide)) (And.intro (fun q => absurd q (by decide)) (And.intro (fun _ => And.intro ha (And.intro ret0 ⟨rfl, rfl, rfl⟩)) (And.intro (fun q => absurd q (by decide)) (And.intro (fun q => absurd q (by decide)) trivial)))))))
  · exact wpK_R 8 [] (And.intro (fun q => absurd q (by decide)) (And.intro (fun q => absurd q (by decide)) (And.intro (fun q => absurd q (by decide)) (And.intro (fun q => absurd q (by decide)) (And.intro (fun q => absurd q (by decide)) (And.intro (fun _ => And.intro ha (And.intro ret0 ⟨rfl, rfl, rfl⟩)) (And.intro (fun q => absurd q (by decide)) trivial)))))))
  · exact wpK_R 8 [] (And.intro (fun q => absurd q (by decide)) (And.intro (fun q => absurd q (by decide)) (And.intro (fun q => absurd q (by decide)) (And.intro (fun q => absurd q (by decide)) (And.intro (fun q => absurd q (by decide)) (And.intro (fun q => absurd q (by decide)) (And.intro (fun _ => And.intro ha (And.intro ret0 ⟨rfl, rfl, rfl⟩)) trivial)))))))
theorem open_F {n : Nat} (h : isOpen (shF n) = true) : False := nomatch (show false = true from h)
abbrev lcR (n : Nat) (σ : Mm) (v : Int) : PQ := fun r sh' σ' => sh' = shF n ∧ σ' = sl σ 132 0 v ∧ r = some (vi 0)
theorem r_lc {n : Nat} {σ : Mm} {a b v : Int} : R 275 8 [some (vr 3), some (vi a), some (vi b), some (vr 132), none] [vi v, vi 0, vr 132] (shF n) 1 6 σ (lcR n σ v) :=
  wpK_R 5 [] (And.intro ⟨by decide, by decide⟩ (And.intro ⟨by decide, by decide, fun q => (open_F q).elim⟩ ⟨rfl, rfl, rfl⟩))
