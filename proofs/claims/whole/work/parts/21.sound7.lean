/-! SOUNDNESS: the kinds of calls; all instructions together -/
section SND7
variable {g : GD} {j pc : Nat} {p : Program} {l : Launch} {e : Env} {Rm : Room} {s₀ : State} {m : MethodId} {args : Array Value} {below : List Frame} {meth : Method} {cd : Code} {Z : State → Prop} {op : Bool} {H : Heap} {locs : List Loc} {ls : Array Slot} {L : List (Option PV)} {S : List PV} {sh : Sh} {c s : Nat} {σ : Mm} {Q : PQ}
theorem cg_ok {k : Nat} (h : cg k S = true) : mchk k = true ∧ codeW k ∧ catS (S.drop (nargN k)) ≤ 8 ∧ (S.take (nargN k)).length = nargN k := by
  unfold cg okK at h
  simp only [Bool.and_eq_true, Bool.not_eq_true'] at h
  obtain ⟨⟨a1, a2, a3⟩, b1, b2, b3⟩ := h
  have a1 := Nat.le_of_ble_eq_true a1
  have a2 := Nat.ne_of_beq_eq_false a2
  have a3 := Nat.ne_of_beq_eq_false a3
  exact ⟨mchk_all a1 a2 a3, codeW_all a1 a2 a3, Nat.le_of_ble_eq_true b1, Nat.eq_of_beq_eq_true b3⟩
theorem code_GW {k : Nat} (h : codeW k) : ∀ w ∈ wsN k, w ∈ GWl := by
  intro w hw
  rcases List.mem_cons.mp hw with rfl | h2
  · exact List.mem_filter.mpr ⟨h, rfl⟩
  · exact h2
theorem stk_split (S : List PV) (n : Nat) : S.map (mkV g) = (((S.take n).reverse).map (mkV g)).reverse ++ (S.drop n).map (mkV g) := by
  rw [← List.map_reverse, List.reverse_reverse, ← List.map_append, List.take_append_drop]
theorem call_ok {k : Nat} (h : callOK j k = true) (hr : Rm = roomN j) : (roomN k).frames + 1 ≤ Rm.frames ∧ 8 + (maxLN k + 11) + (roomN k).locals ≤ Rm.locals := by
  unfold callOK at h
  simp only [Bool.and_eq_true, decide_eq_true_eq] at h
  rw [hr]
  exact ⟨h.1.1, h.1.2⟩
theorem link_ok {o i k : Nat} (hp : poolAt t_meth o i = some k) (hk : k < 1000) : ((o = 6 ∧ i = 194) ∧ k = 102) ∨ (¬ (o = 6 ∧ i = 194) ∧ Cond.methodLink (ownS o) i (yN k) ∈ GWl) := by
  have hl := lchk_all hp
  unfold lchk at hl
  rw [hp] at hl
  simp only at hl
  split at hl
  all_goals first | omega | skip
  by_cases hn : o = 6 ∧ i = 194
  · rw [if_pos hn] at hl; exact Or.inl ⟨hn, of_decide_eq_true hl⟩
  · rw [if_neg hn] at hl; exact Or.inr ⟨hn, gwAt_mem hl⟩
theorem s_callS {i k : Nat} (A : AtF g j p l e Rm s₀ m args below meth cd Z op Q H locs ls L S sh c s σ) (hd : decode (bytesN j) pc = .ok (.invokestatic i, 3)) (hp : poolAt t_meth (ownN j) i = some k) (hc : ichk j pc (.invokestatic i) = true) (hk : k < 1000) (hk2 : k ≠ 275) (h : callW SemX SemX k j pc L S sh c s σ Q) : W p l e Rm s₀ m args below meth cd H locs c s Z (F0 m pc ls (S.map (mkV g))) := by
  simp only [ichk, hp] at hc
  rw [if_pos hk] at hc
  simp only [Bool.or_eq_true, Bool.and_eq_true, decide_eq_true_eq] at hc
  have hc := hc.resolve_right hk2
  have hr := A.room
  refine call_any A (fun P hcg hz h1 h2 hM pre => ?_) h
  obtain ⟨q1, q2, q3, q4⟩ := cg_ok hcg
  obtain ⟨m1, m2, m3, m4, m5, m6⟩ := mchk_ok q1
  rw [if_pos hc.2] at m4 m6
  have hlen : (((S.take (nargN k)).reverse).map (mkV g)).length = nargN k := by simp only [List.length_map, List.length_reverse]; exact q4
  rcases link_ok hp hk with ⟨hn, rfl⟩ | ⟨-, hlk⟩
  · have hnw : va_Nw (.methodLinkNest (ownS (ownN j)) i (yN 102) "CushionCourt") s₀ := by rw [hn.1, hn.2]; exact A.1.2.2.2.2.2.2.2.2.2.2.2.2.2.2.2.1
    exact ⟨_, va_runSN ⟨A.1.1, A.1.2.1, A.1.2.2.1, A.1.2.2.2.1, A.1.2.2.2.2.1⟩ hM ⟨va_cnB (nargN 102) A.1.2.2.2.2.1 (good_GW (code_GW q2)) rfl rfl rfl hnw (by rw [m1]; exact A.1.2.2.2.2.1 _ m3) ⟨m5.1, m5.2, m4⟩ (call_ok hc.1 hr), A.1.2.2.2.2.1 _ m6, trivial⟩ ⟨preK_blind, pre⟩ rfl hlen A.2.2.1.1 (stk_split S _) (lv_room (by rw [catS_map]; exact q3)) hd ⟨by rw [hr]; exact h1, by rw [hr]; exact h2⟩⟩
  · exact ⟨_, va_runS ⟨A.1.1, A.1.2.1, A.1.2.2.1, A.1.2.2.2.1, A.1.2.2.2.2.1⟩ hM (va_cwS (nargN k) A.1.2.2.2.2.1 (good_GW (fun w hw => by
      rcases List.mem_append.mp hw with hw | hw
      · simp only [List.mem_cons, List.not_mem_nil, or_false] at hw
        rcases hw with rfl | rfl | rfl
        · exact hlk
        · exact m6
        · rw [m1]; exact m3
      · exact code_GW q2 w hw)) rfl rfl rfl ⟨m5.1, m5.2, m4⟩ (call_ok hc.1 hr)) ⟨preK_blind, pre⟩ rfl hlen A.2.2.1.1 (stk_split S _) (lv_room (by rw [catS_map]; exact q3)) hd ⟨by rw [hr]; exact h1, by rw [hr]; exact h2⟩⟩
/-- the receiver is the last of what is taken off -/
theorem recv_split {k : Nat} (h0 : 0 < nargN k) (h4 : (S.take (nargN k)).length = nargN k) : ∃ v as, (S.take (nargN k)).reverse = v :: as ∧ as.length = nargN k - 1 := by
  cases hq : (S.take (nargN k)).reverse with
  | nil =>
    have := congrArg List.length hq
    simp only [List.length_reverse, List.length_nil] at this
    omega
  | cons v as =>
    have := congrArg List.length hq
    simp only [List.length_reverse, List.length_cons] at this
    exact ⟨v, as, rfl, by omega⟩
theorem s_callV {i k : Nat} (A : AtF g j p l e Rm s₀ m args below meth cd Z op Q H locs ls L S sh c s σ) (hd : decode (bytesN j) pc = .ok (.invokevirtual i, 3)) (hp : poolAt t_meth (ownN j) i = some k) (hc : ichk j pc (.invokevirtual i) = true) (hk : k < 1000) (hrc : rcv sh k (rev (S.take (nargN k)) []) = true) (h : callW SemX SemX k j pc L S sh c s σ Q) : W p l e Rm s₀ m args below meth cd H locs c s Z (F0 m pc ls (S.map (mkV g))) := by
  simp only [ichk, hp] at hc
  rw [if_pos hk] at hc
  simp only [Bool.and_eq_true, Bool.not_eq_true'] at hc
  obtain ⟨⟨⟨⟨hc1, hc2⟩, hc3⟩, hc4⟩, hc5⟩ := hc
  have hr := A.room
  have wo := A.2.2.2.2.2.1
  refine call_any A (fun P hcg hz h1 h2 hM pre => ?_) h
  obtain ⟨q1, q2, q3, q4⟩ := cg_ok hcg
  obtain ⟨m1, m2, m3, m4, m5, m6⟩ := mchk_ok q1
  have hns : ¬ statN k = true := by rw [hc2]; decide
  rw [if_neg hns] at m4 m6
  obtain ⟨v, as, r1, r2⟩ := recv_split m6.2 q4
  rw [rev_eq, List.append_nil, r1] at hrc
  unfold rcv at hrc
  split at hrc
  · rename_i b as' hcons
    cases hcons
    split at hrc
    · rename_i ci rs hb
      have hci := Nat.eq_of_beq_eq_true hrc
      obtain ⟨b', e1, e2, e3, e4, e5⟩ := World.obj wo hb
      have hlk : Cond.methodLink (ownS (ownN j)) i (yN k) ∈ GWl := by
        rcases link_ok hp hk with ⟨hn, rfl⟩ | ⟨-, hlk⟩
        · exact absurd hc2 (by decide +kernel)
        · exact hlk
      have hoc := own_cls ci e5
      obtain ⟨q, hq⟩ : ∃ q, vwCl[ci]? = some q := by
        cases hv : vwCl[ci]? with
        | none => rw [hv] at hoc; cases hoc
        | some q => exact ⟨q, rfl⟩
      have hq1 : q.1 = (yN k).cls := by
        rw [hq] at hoc
        rw [m1, ← hci]
        exact Option.some.inj hoc
      have hrv := va_recv (q := q) A.1.2.2.2.2.2.2.2.2.2.2.1 wo.1 hq e3
      rw [hq1] at hrv
      have hst := stk_split (g := g) S (nargN k)
      rw [r1] at hst pre hM
      refine ⟨_, va_runV (C := (yN k).cls) (As := as.map (mkV g)) (b := adr g b) ⟨A.1.1, A.1.2.1, A.1.2.2.1, A.1.2.2.2.1, A.1.2.2.2.2.1⟩ hM (cwV (nargN k - 1) A.1.2.2.2.2.1 (good_GW (fun w hw => ?_)) rfl rfl rfl ⟨rfl, m5.1, m5.2, m4⟩ (call_ok hc1 hr)) ⟨preK_blind, hrv, pre⟩ rfl (by simp only [List.length_map]; exact r2) A.2.2.1.1 ?_ (lv_room (by rw [catS_map]; exact q3)) hd ⟨by rw [hr]; exact h1, by rw [hr]; exact h2⟩⟩
      · rcases List.mem_append.mp hw with hw | hw
        · simp only [List.mem_cons, List.not_mem_nil, or_false] at hw
          rcases hw with rfl | rfl | rfl | rfl
          · exact hlk
          · exact m6.1
          · exact gwAt_mem hc3
          · rw [m1]; exact m3
        · exact code_GW q2 w hw
      · show S.map (mkV g) = _
        rw [hst]
        simp only [List.map_cons, List.reverse_cons, List.append_assoc]
        rfl
    · cases hrc
  · cases hrc
theorem s_callI {i k : Nat} (A : AtF g j p l e Rm s₀ m args below meth cd Z op Q H locs ls L S sh c s σ) (hd : decode (bytesN j) pc = .ok (.invokespecial i, 3)) (hp : poolAt t_meth (ownN j) i = some k) (hc : ichk j pc (.invokespecial i) = true) (hk : k < 1000) (hob : ∀ v as, (S.take (nargN k)).reverse = v :: as → ∃ b, v = .inr (.inr b)) (h : callW SemX SemX k j pc L S sh c s σ Q) : W p l e Rm s₀ m args below meth cd H locs c s Z (F0 m pc ls (S.map (mkV g))) := by
  simp only [ichk, hp] at hc
  rw [if_pos hk] at hc
  simp only [Bool.and_eq_true, Bool.not_eq_true', decide_eq_true_eq] at hc
  obtain ⟨⟨⟨hc1, hc2⟩, hc3⟩, hc4⟩ := hc
  have hr := A.room
  refine call_any A (fun P hcg hz h1 h2 hM pre => ?_) h
  obtain ⟨q1, q2, q3, q4⟩ := cg_ok hcg
  obtain ⟨m1, m2, m3, m4, m5, m6⟩ := mchk_ok q1
  have hns : ¬ statN k = true := by rw [hc2]; decide
  rw [if_neg hns] at m4 m6
  obtain ⟨v, as, r1, r2⟩ := recv_split m6.2 q4
  obtain ⟨b, rfl⟩ := hob v as r1
  have hlk : Cond.methodLink (ownS (ownN j)) i (yN k) ∈ GWl := by
    rcases link_ok hp hk with ⟨hn, rfl⟩ | ⟨-, hlk⟩
    · exact absurd hc2 (by decide +kernel)
    · exact hlk
  have hst := stk_split (g := g) S (nargN k)
  rw [r1] at hst pre hM
  have hws : wsN k = Cond.code (yN k) (bytesN k) (maxLN k) none :: GWl := by unfold wsN; rw [hc4]; rfl
  refine ⟨_, va_runI (As := as.map (mkV g)) (b := adr g b) ⟨A.1.1, A.1.2.1, A.1.2.2.1, A.1.2.2.2.1, A.1.2.2.2.2.1⟩ hM (cwI (nargN k - 1) A.1.2.2.2.2.1 (good_GW (code_GW q2)) hws rfl rfl (by rw [m1]; exact A.1.2.2.2.2.1 _ m3) (A.1.2.2.2.2.1 _ hlk) (A.1.2.2.2.2.1 _ m6.1) hc3 ⟨m5.1, m5.2, m4⟩ (call_ok hc1 hr)) ⟨preK_blind, pre⟩ rfl (by simp only [List.length_map]; exact r2) A.2.2.1.1 ?_ (lv_room (by rw [catS_map]; exact q3)) hd ⟨by rw [hr]; exact h1, by rw [hr]; exact h2⟩⟩
  show S.map (mkV g) = _
  rw [hst]
  simp only [List.map_cons, List.reverse_cons, List.append_assoc]
  rfl
end SND7
