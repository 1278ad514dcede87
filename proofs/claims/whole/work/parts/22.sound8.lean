/-! SOUNDNESS: what the pure machine reaches, the JVM reaches. Two things are taken as given here: the text of words (ldc, length, charAt), and the law's own catch. -/
def StrOK : Prop := ∀ (j pc : Nat) (L : List (Option PV)) (S : List PV) (sh : Sh) (c s : Nat) (σ : Mm) (Q : PQ) (ins : Instr), insAt j pc = some ins → ((ins = .ldc 26 ∧ ownN j = 6) ∨ ∃ i, ins = .invokevirtual i ∧ (poolAt t_meth (ownN j) i = some 1008 ∨ poolAt t_meth (ownN j) i = some 1009)) → wpI SemX SemX j pc L S sh c s σ Q ins → SemX j pc L S sh c s σ Q
def CauseOK : Prop := ∀ (j pc i : Nat) (L : List (Option PV)) (S : List PV) (sh : Sh) (c s : Nat) (σ : Mm) (Q : PQ), insAt j pc = some (.invokestatic i) → poolAt t_meth (ownN j) i = some 275 → causeW SemX j pc L S sh c s σ Q → SemX j pc L S sh c s σ Q
theorem hob_ok {sh : Sh} {k : Nat} {S : List PV} (hrc : rcv sh k (rev (S.take (nargN k)) []) = true) : ∀ v as, (S.take (nargN k)).reverse = v :: as → ∃ b, v = .inr (.inr b) := by
  intro v as h
  rw [rev_eq, List.append_nil, h] at hrc
  unfold rcv at hrc
  split at hrc
  · rename_i r as' hcons
    cases hcons
    exact ⟨r, rfl⟩
  · cases hrc
set_option maxHeartbeats 4000000 in
theorem sound_step (hStr : StrOK) (j pc : Nat) (L : List (Option PV)) (S : List PV) (sh : Sh) (c s : Nat) (σ : Mm) (Q : PQ) (hCau : ∀ i, insAt j pc = some (.invokestatic i) → poolAt t_meth (ownN j) i = some 275 → causeW SemX j pc L S sh c s σ Q → SemX j pc L S sh c s σ Q) (h : wp1 SemX SemX j pc L S sh c s σ Q) : SemX j pc L S sh c s σ Q := by
  unfold wp1 at h
  split at h
  · rename_i ins hins
    obtain ⟨hj, hc, hd⟩ := code_ok hins
    intro g p l e Rm s₀ m args below meth cd Z op H locs ls A
    cases ins with
    | iconst n => exact s_iconst A (dec_ok hd rfl (by decide)) (of_decide_eq_true hc) h
    | bipush n => exact s_bipush A (dec_ok hd rfl (by decide)) (of_decide_eq_true hc) h
    | sipush n => exact s_sipush A (dec_ok hd rfl (by decide)) (of_decide_eq_true hc) h
    | lconst n => exact s_lconst A (dec_ok hd rfl (by decide)) h
    | ldc i =>
      simp only [wpI] at h
      split at h
      · rename_i v hv
        have hk := kchk_all hv
        unfold kchk at hk
        rw [hv] at hk
        simp only [Bool.and_eq_true, decide_eq_true_eq] at hk
        exact lv_ldc A.1.1 A.1.2.1 A.1.2.2.2.1 (A.1.2.2.2.2.1 _ (gwAt_mem hk.2)) (dec_ok hd rfl (by decide)) (h _ _ _ _ _ _ _ _ _ _ _ _ _ _ _ _ (A.stk (rc hk.1 A.rS)))
      · rename_i hv
        split at h
        · rename_i ho
          refine hStr j pc L S sh c s σ Q (.ldc 26) hins (Or.inl ⟨rfl, ho⟩) ?_ _ _ _ _ _ _ _ _ _ _ _ _ _ _ _ _ A
          simp only [wpI, hv]
          rw [ho]
          exact h
        · exact h.elim
    | ldc_w i => exact s_ldc_w A (dec_ok hd rfl (by decide)) h
    | ldc2_w i => exact s_ldc2 A (dec_ok hd rfl (by decide)) h
    | iload i => exact s_iload A (dec_ok hd rfl (by decide)) h
    | iload_n i => exact s_iload_n A (dec_ok hd rfl (by decide)) h
    | lload i => exact s_lload A (dec_ok hd rfl (by decide)) h
    | lload_n i => exact s_lload_n A (dec_ok hd rfl (by decide)) h
    | aload i => exact s_aload A (dec_ok hd rfl (by decide)) h
    | aload_n i => exact s_aload_n A (dec_ok hd rfl (by decide)) h
    | istore i => exact s_istore A (dec_ok hd rfl (by decide)) (of_decide_eq_true hc) h
    | istore_n i => exact s_istore_n A (dec_ok hd rfl (by decide)) (of_decide_eq_true hc) h
    | astore i => exact s_astore A (dec_ok hd rfl (by decide)) (of_decide_eq_true hc) h
    | astore_n i => exact s_astore_n A (dec_ok hd rfl (by decide)) (of_decide_eq_true hc) h
    | lstore i => exact s_lstore A (dec_ok hd rfl (by decide)) (of_decide_eq_true hc) h
    | lstore_n i => exact s_lstore_n A (dec_ok hd rfl (by decide)) (of_decide_eq_true hc) h
    | iinc i n =>
      simp only [ichk, Bool.and_eq_true, decide_eq_true_eq] at hc
      exact s_iinc A (dec_ok hd rfl (by decide)) hc.1 h
    | iadd => exact s_iadd A (dec_ok hd rfl (by decide)) h
    | isub => exact s_isub A (dec_ok hd rfl (by decide)) h
    | imul => exact s_imul A (dec_ok hd rfl (by decide)) h
    | idiv => exact s_idiv A (dec_ok hd rfl (by decide)) h
    | irem => exact s_irem A (dec_ok hd rfl (by decide)) h
    | ineg => exact s_ineg A (dec_ok hd rfl (by decide)) h
    | iand => exact s_iand A (dec_ok hd rfl (by decide)) h
    | ior => exact s_ior A (dec_ok hd rfl (by decide)) h
    | ixor => exact s_ixor A (dec_ok hd rfl (by decide)) h
    | ishl => exact s_ishl A (dec_ok hd rfl (by decide)) h
    | ishr => exact s_ishr A (dec_ok hd rfl (by decide)) h
    | iushr => exact s_iushr A (dec_ok hd rfl (by decide)) h
    | ladd => exact s_ladd A (dec_ok hd rfl (by decide)) h
    | lsub => exact s_lsub A (dec_ok hd rfl (by decide)) h
    | lmul => exact s_lmul A (dec_ok hd rfl (by decide)) h
    | ldiv => exact s_ldiv A (dec_ok hd rfl (by decide)) h
    | lrem => exact s_lrem A (dec_ok hd rfl (by decide)) h
    | lneg => exact s_lneg A (dec_ok hd rfl (by decide)) h
    | land => exact s_land A (dec_ok hd rfl (by decide)) h
    | lcmp => exact s_lcmp A (dec_ok hd rfl (by decide)) h
    | i2l => exact s_i2l A (dec_ok hd rfl (by decide)) h
    | l2i => exact s_l2i A (dec_ok hd rfl (by decide)) h
    | i2b => exact s_i2b A (dec_ok hd rfl (by decide)) h
    | dup => exact s_dup A (dec_ok hd rfl (by decide)) h
    | dup2 => exact s_dup2 A (dec_ok hd rfl (by decide)) h
    | ifCond cnd off =>
      cases cnd with
      | eq => exact s_if_eq A (dec_ok hd rfl (by decide)) hc h
      | ne => exact s_if_ne A (dec_ok hd rfl (by decide)) hc h
      | lt => exact s_if_lt A (dec_ok hd rfl (by decide)) hc h
      | ge => exact s_if_ge A (dec_ok hd rfl (by decide)) hc h
      | gt => exact s_if_gt A (dec_ok hd rfl (by decide)) hc h
      | le => exact s_if_le A (dec_ok hd rfl (by decide)) hc h
    | if_icmp cnd off =>
      cases cnd with
      | eq => exact s_icmp_eq A (dec_ok hd rfl (by decide)) hc h
      | ne => exact s_icmp_ne A (dec_ok hd rfl (by decide)) hc h
      | lt => exact s_icmp_lt A (dec_ok hd rfl (by decide)) hc h
      | ge => exact s_icmp_ge A (dec_ok hd rfl (by decide)) hc h
      | gt => exact s_icmp_gt A (dec_ok hd rfl (by decide)) hc h
      | le => exact s_icmp_le A (dec_ok hd rfl (by decide)) hc h
    | goto off => exact s_goto A (dec_ok hd rfl (by decide)) hc h
    | tableswitch d lo hi os =>
      obtain ⟨n, hn⟩ := dec_ex hd
      exact s_tsw A hn hc h
    | lookupswitch d ps =>
      obtain ⟨n, hn⟩ := dec_ex hd
      exact s_lsw A hn hc h
    | getstatic i => exact s_getstatic A (dec_ok hd rfl (by decide)) h
    | getfield i => exact s_getfield A (dec_ok hd rfl (by decide)) h
    | putfield i => exact s_putfield A (dec_ok hd rfl (by decide)) hc h
    | iaload => exact s_iaload A (dec_ok hd rfl (by decide)) h
    | baload => exact s_baload A (dec_ok hd rfl (by decide)) h
    | laload => exact s_laload A (dec_ok hd rfl (by decide)) h
    | iastore => exact s_iastore A (dec_ok hd rfl (by decide)) h
    | bastore => exact s_bastore A (dec_ok hd rfl (by decide)) h
    | lastore => exact s_lastore A (dec_ok hd rfl (by decide)) h
    | arraylength => exact s_alen A (dec_ok hd rfl (by decide)) h
    | newarray a => exact s_newarray A (dec_ok hd rfl (by decide)) h
    | new i => exact s_new A (dec_ok hd rfl (by decide)) h
    | invokevirtual i =>
      have h0 := h
      simp only [wpI] at h
      split at h
      · rename_i k hp
        split at h
        · exact hStr j pc L S sh c s σ Q _ hins (Or.inr ⟨i, rfl, Or.inl hp⟩) h0 _ _ _ _ _ _ _ _ _ _ _ _ _ _ _ _ A
        · exact hStr j pc L S sh c s σ Q _ hins (Or.inr ⟨i, rfl, Or.inr hp⟩) h0 _ _ _ _ _ _ _ _ _ _ _ _ _ _ _ _ A
        · split at h
          · rename_i hrc
            have hk : k < 1000 := by
              unfold callW at h
              split at h
              · exact h.elim
              · rename_i hcg
                unfold cg okK at hcg
                simp only [Bool.and_eq_true] at hcg
                have := Nat.le_of_ble_eq_true hcg.1.1
                omega
            exact s_callV A (dec_ok hd rfl (by decide)) hp hc hk hrc h
          · exact h.elim
      · exact h.elim
    | invokespecial i =>
      simp only [wpI] at h
      split at h
      · rename_i k hp
        split at h
        · split at h
          · exact s_objInit A (dec_ok hd rfl (by decide)) hp hc h
          · exact h.elim
        · split at h
          · rename_i hrc
            have hk : k < 1000 := by
              unfold callW at h
              split at h
              · exact h.elim
              · rename_i hcg
                unfold cg okK at hcg
                simp only [Bool.and_eq_true] at hcg
                have := Nat.le_of_ble_eq_true hcg.1.1
                omega
            exact s_callI A (dec_ok hd rfl (by decide)) hp hc hk (hob_ok hrc) h
          · exact h.elim
      · exact h.elim
    | invokestatic i =>
      have h0 := h
      simp only [wpI] at h
      split at h
      · rename_i k hp
        by_cases hk : 1000 ≤ k
        · exact s_static_builtin A hins (dec_ok hd rfl (by decide)) hp hk hc h0
        · by_cases hk2 : k = 275
          · subst hk2
            exact hCau i hins hp h _ _ _ _ _ _ _ _ _ _ _ _ _ _ _ _ A
          · have h1 : callW SemX SemX k j pc L S sh c s σ Q := by
              split at h
              all_goals first | omega | exact h
            exact s_callS A (dec_ok hd rfl (by decide)) hp hc (by omega) hk2 h1
      · exact h.elim
    | ireturn => exact s_ireturn A (dec_ok hd rfl (by decide)) h
    | lreturn => exact s_lreturn A (dec_ok hd rfl (by decide)) h
    | return_ => exact s_return A (dec_ok hd rfl (by decide)) h
    | _ => exact h.elim
  · exact h.elim
theorem sem_mono : MonoX SemX := by
  intro j pc L S sh c s σ Q Q' hq h g p l e Rm s₀ m args below meth cd Z op H locs ls A
  exact h _ _ _ _ _ _ _ _ _ _ _ _ _ _ _ _ ⟨A.1, fun r sh' σ' H' locs' c' s' pc' ls' q => A.2.1 r sh' σ' H' locs' c' s' pc' ls' (hq _ _ _ q), A.2.2⟩
theorem shut_get {sh : Sh} {k : Nat} (h : k ≠ 0) : (shut sh)[k]? = sh[k]? := by
  match sh, k with
  | [], _ => rfl
  | _ :: _, k + 1 => rfl
  | _ :: _, 0 => exact absurd rfl h
theorem shut_len {sh : Sh} : (shut sh).length = sh.length := by
  match sh with
  | [] => rfl
  | _ :: _ => rfl
theorem shut_shut {sh : Sh} (h : 3 ≤ sh.length) : isOpen (shut sh) = false := by
  match sh, h with
  | (_, _) :: _, _ => rfl
theorem sem_shut (j pc : Nat) (L : List (Option PV)) (S : List PV) (sh : Sh) (c s : Nat) (σ : Mm) (Q : PQ) (h : SemX j pc L S (shut sh) c s σ Q) : SemX j pc L S sh c s σ Q := by
  intro g p l e Rm s₀ m args below meth cd Z op H locs ls A
  obtain ⟨a1, a2, a3, a4, a5, ⟨w1, ⟨o1, ⟨f0, o2⟩, o3, o4, o5, o6, o7⟩, w3⟩, a7, a8, a9, a10⟩ := A
  have hne : ∀ k, k ≠ 0 → (shut sh)[k]? = sh[k]? := fun k hk => shut_get hk
  have h0 : (shut sh)[0]? = some (.inl (4, 6), [none]) := by
    match sh, o2 with
    | (_, _) :: _, o2 => cases o2; rfl
  refine h _ _ _ _ _ _ _ _ _ _ _ _ _ _ _ _ ⟨a1, a2, a3, a4, a5, ⟨?_, ⟨by rw [shut_len]; exact o1, ⟨_, h0⟩, by rw [hne 1 (by omega)]; exact o3, by rw [hne 2 (by omega)]; exact o4, fun k ty n rs hk hy => ?_, fun k ty n rs hy => ?_, fun k ci rs hy => ?_⟩, w3⟩, a7, a8, a9, fun q => ?_⟩
  · rw [shut_len, wlE_congr (E := cellE g sh σ) (fun k _ => by unfold cellE; rw [hne (k + 3) (by omega)])]
    exact w1
  · rw [hne k (by omega)] at hy; exact o5 k ty n rs hk hy
  · by_cases hk : k = 0
    · subst hk; rw [h0] at hy; cases hy; decide
    · rw [hne k hk] at hy; exact o6 k ty n rs hy
  · by_cases hk : k = 0
    · subst hk; rw [h0] at hy; cases hy
    · rw [hne k hk] at hy; exact o7 k ci rs hy
  · rw [shut_shut o1] at q; cases q
theorem sem_rng (j pc : Nat) (L : List (Option PV)) (S : List PV) (sh : Sh) (c s : Nat) (σ : Mm) (Q : PQ) (h : rngC L S σ → SemX j pc L S sh c s σ Q) : SemX j pc L S sh c s σ Q := by
  intro g p l e Rm s₀ m args below meth cd Z op H locs ls A
  exact h ⟨A.2.2.2.1, A.2.2.2.2.1, A.2.2.2.2.2.1.2.2.2.2.2.1, A.2.2.2.2.2.1.2.2.2.2.2.2⟩ _ _ _ _ _ _ _ _ _ _ _ _ _ _ _ _ A
/-- THE BRIDGE: what the pure machine reaches, the JVM reaches -/
theorem bridge_open (hStr : StrOK) (hCau : CauseOK) {j pc : Nat} {L : List (Option PV)} {S : List PV} {sh : Sh} {c s : Nat} {σ : Mm} {Q : PQ} (h : R j pc L S sh c s σ Q) : SemX j pc L S sh c s σ Q :=
  h SemX ⟨sem_mono, fun j pc L S sh c s σ Q => sound_step hStr j pc L S sh c s σ Q (fun i => hCau j pc i L S sh c s σ Q), sem_shut, sem_rng⟩
