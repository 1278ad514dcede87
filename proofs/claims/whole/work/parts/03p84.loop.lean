/-! THE SCRIPT IS NEVER WRITTEN: its row has a type of its own -/
def isS (sh : Sh) : Prop := ∃ (n : Nat) (rs : List (Option Nat)), sh[1]? = some (.inl (5, n), rs)
def sm (σ σ' : Mm) : Prop := ∀ i, gi σ' 1 i = gi σ 1 i
def X0 : XT := fun j pc L S sh c s σ Q => isS sh → R j pc L S sh c s σ (fun r sh' σ' => Q r sh' σ' ∧ isS sh' ∧ sm σ σ')
theorem X0_to {j pc : Nat} {L : List (Option PV)} {S : List PV} {sh : Sh} {c s : Nat} {σ σ1 : Mm} {Q : PQ} (h : X0 j pc L S sh c s σ1 Q) (hs : isS sh) (hm : sm σ σ1) : R j pc L S sh c s σ (fun r sh' σ' => Q r sh' σ' ∧ isS sh' ∧ sm σ σ') ∨ True := Or.inr trivial
theorem X0_at {j pc : Nat} {L : List (Option PV)} {S : List PV} {sh : Sh} {c s : Nat} {σ σ1 : Mm} {Q : PQ} (h : X0 j pc L S sh c s σ1 Q) (hs : isS sh) (hm : sm σ σ1) : R j pc L S sh c s σ1 (fun r sh' σ' => Q r sh' σ' ∧ isS sh' ∧ sm σ σ') :=
  R_mono _ _ _ _ _ _ _ _ _ _ (fun r sh' σ' q => ⟨q.1, q.2.1, fun i => (q.2.2 i).trans (hm i)⟩) (h hs)
theorem sm_si {σ : Mm} {k i : Nat} {v : Int} (h : k ≠ 1) : sm σ (si σ k i v) := fun x => by rw [gi_si, if_neg (fun z => h z.1.symm)]
theorem call_scr {k j pc : Nat} {L : List (Option PV)} {S : List PV} {sh : Sh} {c s : Nat} {σ : Mm} {Q : PQ} (hs : isS sh) (h : callW X0 X0 k j pc L S sh c s σ Q) : callW R R k j pc L S sh c s σ (fun r sh' σ' => Q r sh' σ' ∧ isS sh' ∧ sm σ σ') := by
  unfold callW at h ⊢
  split at h
  · exact h.elim
  · refine ⟨h.1, h.2.1, ?_⟩
    have h2 := h.2.2
    split at h2
    · exact R_mono _ _ _ _ _ _ _ _ _ _ (fun r sh' σ' q => ⟨q.1.1, X0_at q.1.2 q.2.1 q.2.2⟩) (h2 hs)
    · exact R_mono _ _ _ _ _ _ _ _ _ _ (fun r sh' σ' q => by obtain ⟨⟨v, q1, q2⟩, q3, q4⟩ := q; exact ⟨v, q1, X0_at q2 q3 q4⟩) (h2 hs)
    · exact R_mono _ _ _ _ _ _ _ _ _ _ (fun r sh' σ' q => by obtain ⟨⟨v, q1, q2⟩, q3, q4⟩ := q; exact ⟨v, q1, X0_at q2 q3 q4⟩) (h2 hs)
theorem cause_scr {j pc : Nat} {L : List (Option PV)} {S : List PV} {sh : Sh} {c s : Nat} {σ : Mm} {Q : PQ} (hs : isS sh) (h : causeW X0 j pc L S sh c s σ Q) : causeW R j pc L S sh c s σ (fun r sh' σ' => Q r sh' σ' ∧ isS sh' ∧ sm σ σ') := by
  unfold causeW at h ⊢
  split at h
  · exact ⟨h.1, h.2.1, fun e => (h.2.2.1 e) hs, fun a b d => (h.2.2.2.1 a b d) hs, fun a b d e => ⟨(h.2.2.2.2 a b d e).1, X0_at (h.2.2.2.2 a b d e).2 hs (fun _ => rfl)⟩⟩
  · exact h.elim
theorem tsw_scr {x : Int} {pc : Nat} {k k' : Nat → Prop} (h : ∀ p, k p → k' p) {os : List Int} {lo : Int} (q : tsw x pc k lo os) : tsw x pc k' lo os := tsw_mono h os lo q
theorem isS_ne {sh : Sh} {k n : Nat} {t : Nat} {rs : List (Option Nat)} (hs : isS sh) (h : sh[k]? = some (.inl (t, n), rs)) (ht : t ≠ 5) : k ≠ 1 := fun e => by
  obtain ⟨m, qs, hq⟩ := hs
  rw [e, hq] at h
  simp only [Option.some.injEq, Prod.mk.injEq, Sum.inl.injEq] at h
  exact ht h.1.1.symm
theorem isS_no {sh : Sh} {k cj : Nat} {rs : List (Option Nat)} (hs : isS sh) (h : sh[k]? = some (.inr cj, rs)) : k ≠ 1 := fun e => by
  obtain ⟨m, qs, hq⟩ := hs
  rw [e, hq] at h
  simp at h
theorem isS_set {sh : Sh} {k : Nat} {v : (Nat × Nat) ⊕ Nat} {rs : List (Option Nat)} (hs : isS sh) (h : k ≠ 1) : isS (sh.set k (v, rs)) := by
  obtain ⟨m, qs, hq⟩ := hs
  exact ⟨m, qs, by rw [List.getElem?_set_ne h]; exact hq⟩
theorem isS_app {sh : Sh} {x : ((Nat × Nat) ⊕ Nat) × List (Option Nat)} (hs : isS sh) : isS (sh ++ [x]) := by
  obtain ⟨m, qs, hq⟩ := hs
  refine ⟨m, qs, ?_⟩
  rw [List.getElem?_append_left]
  · exact hq
  · exact (List.getElem?_eq_some_iff.mp hq).1
theorem isS_len {sh : Sh} (hs : isS sh) : sh.length ≠ 1 := by
  obtain ⟨m, qs, hq⟩ := hs
  have := (List.getElem?_eq_some_iff.mp hq).1
  omega
theorem sm_sz {σ : Mm} {k : Nat} (h : k ≠ 1) : sm σ (sz σ k) := fun i => by
  show (sz σ k).1 1 i = σ.1 1 i
  simp only [sz]
  rw [if_neg (Ne.symm h)]
theorem sm_cp {σ : Mm} {b i a x n : Nat} (h : a ≠ 1) : sm σ (cp σ b i a x n) := fun y => by
  rw [gi_cp, if_neg (fun z => h z.1.symm)]
set_option maxHeartbeats 8000000 in
theorem step_scr {j pc : Nat} {L : List (Option PV)} {S : List PV} {sh : Sh} {c s : Nat} {σ : Mm} {Q : PQ} (hs : isS sh) (ins : Instr) (h : wpI X0 X0 j pc L S sh c s σ Q ins) : wpI R R j pc L S sh c s σ (fun r sh' σ' => Q r sh' σ' ∧ isS sh' ∧ sm σ σ') ins := by
  cases ins <;> simp only [wpI, ldI, ldL, ldA, gd] at h ⊢ <;> repeat' (first | exact h.elim | exact h hs | exact ⟨h.1, h.2 hs⟩ | exact ⟨h.1, h.2, hs, fun _ => rfl⟩ | exact ⟨h.1, h.2.1, h.2.2, hs, fun _ => rfl⟩ | exact brP_mono (fun q => q hs) (fun q => q hs) h | exact call_scr hs h | exact cause_scr hs h | exact ⟨fun e => (h.1 e) hs, fun e => (h.2.1 e) hs, fun e => (h.2.2 e) hs⟩ | exact ⟨fun e => (h.1 e) hs, tsw_mono (fun p q => q hs) _ _ h.2⟩ | exact lsw_mono (fun p q => q hs) _ h | exact X0_at h hs (sm_si (isS_no hs (by assumption))) | exact ⟨h.1, X0_at h.2 hs (sm_si (isS_no hs (by assumption)))⟩ | exact X0_at h hs (fun _ => rfl) | exact X0_at h (isS_set hs (isS_no hs (by assumption))) (fun _ => rfl) | exact ⟨h.1, X0_at h.2 hs (sm_si (isS_ne hs (by assumption) (by omega)))⟩ | exact ⟨h.1, h.2.1, X0_at h.2.2 hs (sm_si (isS_ne hs (by assumption) (by omega)))⟩ | exact ⟨h.1, X0_at h.2 hs (fun _ => rfl)⟩ | exact ⟨h.1, X0_at h.2 hs (sm_cp (isS_ne hs (by assumption) (by omega)))⟩ | exact ⟨h.1, X0_at h.2 (isS_app hs) (sm_sz (isS_len hs))⟩ | exact X0_at h (isS_app hs) (sm_sz (isS_len hs)) | (refine ⟨h.1, ?_⟩; have h := h.2; split at h <;> first | exact h.elim | exact X0_at h (isS_app hs) (sm_sz (isS_len hs)) | exact ⟨h, hs, fun _ => rfl⟩ | exact ⟨h.1, h.2, hs, fun _ => rfl⟩) | split at h)
theorem isS_shut {sh : Sh} (hs : isS sh) : isS (shut sh) := by
  obtain ⟨m, qs, hq⟩ := hs
  refine ⟨m, qs, ?_⟩
  unfold shut
  split
  · simpa using hq
  · exact hq
theorem X0_closed : ClosedX X0 := by
  refine ⟨fun j pc L S sh c s σ Q Q' hq h hs => ?_, fun j pc L S sh c s σ Q h hs => ?_, fun j pc L S sh c s σ Q h hs => R_shut (h (isS_shut hs)), fun j pc L S sh c s σ Q h hs => R_rng fun q => h q hs⟩
  · exact R_mono _ _ _ _ _ _ _ _ _ _ (fun r sh' σ' q => ⟨hq _ _ _ q.1, q.2⟩) (h hs)
  · refine R_step ?_
    unfold wp1 at h ⊢
    split at h
    · exact step_scr hs _ h
    · exact h.elim
theorem isS_F (n : Nat) : isS (shF n) := ⟨n, [], rfl⟩
theorem R_scr {j pc : Nat} {L : List (Option PV)} {S : List PV} {sh : Sh} {c s : Nat} {σ : Mm} {Q : PQ} (h : R j pc L S sh c s σ Q) (hs : isS sh) : R j pc L S sh c s σ (fun r sh' σ' => Q r sh' σ' ∧ isS sh' ∧ sm σ σ') := h X0 X0_closed hs
theorem Ci_scr {k n : Nat} {as : List PV} {σ : Mm} {P : Int → Mm → Prop} (h : Ci k as (shF n) σ P) : Ci k as (shF n) σ (fun v s => P v s ∧ sm σ s) :=
  R_mono _ _ _ _ _ _ _ _ _ _ (fun r sh' σ' q => by obtain ⟨⟨q1, v, q2, q3⟩, q4, q5⟩ := q; exact ⟨q1, v, q2, q3, q5⟩) (R_scr h (isS_F n))
theorem Cl_scr {k n : Nat} {as : List PV} {σ : Mm} {P : Int → Mm → Prop} (h : Cl k as (shF n) σ P) : Cl k as (shF n) σ (fun v s => P v s ∧ sm σ s) :=
  R_mono _ _ _ _ _ _ _ _ _ _ (fun r sh' σ' q => by obtain ⟨⟨q1, v, q2, q3⟩, q4, q5⟩ := q; exact ⟨q1, v, q2, q3, q5⟩) (R_scr h (isS_F n))
theorem Ci_arg {k n : Nat} {σ s : Mm} {P : Int → Mm → Prop} (A : (Nat → Int) → List PV) (h : Ci k (A (gi σ 1)) (shF n) s P ∧ sm σ s) : Ci k (A (gi s 1)) (shF n) s P := by
  have e : gi s 1 = gi σ 1 := funext h.2
  rw [e]; exact h.1
theorem Cl_arg {k n : Nat} {σ s : Mm} {P : Int → Mm → Prop} (A : (Nat → Int) → List PV) (h : Cl k (A (gi σ 1)) (shF n) s P ∧ sm σ s) : Cl k (A (gi s 1)) (shF n) s P := by
  have e : gi s 1 = gi σ 1 := funext h.2
  rw [e]; exact h.1
theorem callN_c {X : XT} {k j pc : Nat} {L : List (Option PV)} {S : List PV} {sh : Sh} {c s : Nat} {σ : Mm} {Q : PQ} (h0 : cg k S = true) (h1 : Nat.ble (c + mcN k) (mcN j) = true) (h2 : Nat.ble (s + msN k) (msN j) = true) (h : match retN k with
    | 0 => Cv k (rev (S.take (nargN k)) []) sh σ (fun σ' => X j (pc + 3) L (S.drop (nargN k)) sh (c + mcN k) (s + msN k) σ' Q)
    | 2 => Cl k (rev (S.take (nargN k)) []) sh σ (fun v σ' => X j (pc + 3) L (vl v :: S.drop (nargN k)) sh (c + mcN k) (s + msN k) σ' Q)
    | _ => Ci k (rev (S.take (nargN k)) []) sh σ (fun v σ' => X j (pc + 3) L (vi v :: S.drop (nargN k)) sh (c + mcN k) (s + msN k) σ' Q)) : callN X k j pc L S sh c s σ Q := by
  unfold callN
  rw [h0, h1, h2]
  exact h
theorem retc {n c s : Nat} (hc : Nat.ble c 1156 = true) (hs : Nat.ble s 13874 = true) : retOK 276 (shF n) c s := ⟨Nat.le_of_ble_eq_true hc, Nat.le_of_ble_eq_true hs, fun h => Bool.noConfusion h⟩
