/-! SOUNDNESS: returns and calls -/
section SND6
variable {g : GD} {j pc : Nat} {p : Program} {l : Launch} {e : Env} {Rm : Room} {s₀ : State} {m : MethodId} {args : Array Value} {below : List Frame} {meth : Method} {cd : Code} {Z : State → Prop} {op : Bool} {H : Heap} {locs : List Loc} {ls : Array Slot} {L : List (Option PV)} {S : List PV} {sh : Sh} {c s : Nat} {σ : Mm} {Q : PQ}
theorem s_ireturn (A : AtF g j p l e Rm s₀ m args below meth cd Z op Q H locs ls L S sh c s σ) (hd : decode (bytesN j) pc = .ok (.ireturn, 1)) (h : wpI SemX SemX j pc L S sh c s σ Q .ireturn) : W p l e Rm s₀ m args below meth cd H locs c s Z (F0 m pc ls (S.map (mkV g))) := by
  simp only [wpI] at h
  split at h
  · rename_i v
    obtain ⟨h1, h⟩ := h
    have r := A.rS
    split at h
    · rename_i hr
      exact A.2.1 (some (.inl v)) sh σ H locs c s pc ls h A.2.2.2.2.2.1 A.2.2.2.2.2.2.1 h1 A.2.2.2.2.2.2.2.2.2 (fun u hu => by cases hu; exact rh r) ⟨hd, Or.inl hr⟩
    · rename_i hr
      exact A.2.1 (some (.inl v)) sh σ H locs c s pc ls h.2 A.2.2.2.2.2.1 A.2.2.2.2.2.2.1 h1 A.2.2.2.2.2.2.2.2.2 (fun u hu => by cases hu; exact rh r) ⟨hd, Or.inr ⟨hr, h.1⟩⟩
    · exact h.elim
  · exact h.elim
theorem s_lreturn (A : AtF g j p l e Rm s₀ m args below meth cd Z op Q H locs ls L S sh c s σ) (hd : decode (bytesN j) pc = .ok (.lreturn, 1)) (h : wpI SemX SemX j pc L S sh c s σ Q .lreturn) : W p l e Rm s₀ m args below meth cd H locs c s Z (F0 m pc ls (S.map (mkV g))) := by
  simp only [wpI] at h
  split at h
  · rename_i v
    obtain ⟨h1, h⟩ := h
    have r := A.rS
    split at h
    · rename_i hr
      exact A.2.1 (some (.inr (.inl v))) sh σ H locs c s pc ls h A.2.2.2.2.2.1 A.2.2.2.2.2.2.1 h1 A.2.2.2.2.2.2.2.2.2 (fun u hu => by cases hu; exact rh r) ⟨hd, hr⟩
    · exact h.elim
  · exact h.elim
theorem s_return (A : AtF g j p l e Rm s₀ m args below meth cd Z op Q H locs ls L S sh c s σ) (hd : decode (bytesN j) pc = .ok (.return_, 1)) (h : wpI SemX SemX j pc L S sh c s σ Q .return_) : W p l e Rm s₀ m args below meth cd H locs c s Z (F0 m pc ls (S.map (mkV g))) := by
  simp only [wpI] at h
  split at h
  · obtain ⟨h1, h⟩ := h
    split at h
    · rename_i hr
      exact A.2.1 none sh σ H locs c s pc ls h A.2.2.2.2.2.1 A.2.2.2.2.2.2.1 h1 A.2.2.2.2.2.2.2.2.2 (fun u hu => by cases hu) ⟨hd, hr⟩
    · exact h.elim
  · exact h.elim
def wsN (k : Nat) : List Cond := .code (yN k) (bytesN k) (maxLN k) (retF (retN k)) :: GWl
def PreK (g : GD) (sh : Sh) (σ : Mm) (as : List PV) : Array Value → State → Prop := va_Pc (as.map (mkV g)) (fun U => CtxS g U ∧ World g sh σ U.heap ∧ (isOpen sh = true → U.heap.size = gBase g + (sh.length - 3)))
def PostK (g : GD) (k : Nat) (sh : Sh) (P : PQ) : Array Value → State → Outcome → State → Prop := fun _ st o t =>
  (∃ (r : Option PV) (sh' : Sh) (σ' : Mm), o = .returned (r.map (mkV g)) ∧ P r sh' σ' ∧ (∀ v, r = some v → rngV v) ∧ World g sh' σ' t.heap ∧ (isOpen sh' = true → st.heap.size + mcN k = gBase g + (sh'.length - 3) ∧ isOpen sh = true)) ∧ va_F (gA g) st t
theorem pad_get : ∀ (n : Nat) (l : List (Option PV)) {i : Nat} {v : PV}, (pad n l)[i]? = some (some v) → l[i]? = some (some v) := by
  intro n
  induction n with
  | zero => intro l i v h; simp [pad] at h
  | succ n ih =>
    intro l i v h
    cases l with
    | nil =>
      cases i with
      | zero => simp [pad] at h
      | succ i => simp only [pad, List.getElem?_cons_succ] at h; exact absurd (ih [] h) (by simp)
    | cons x r =>
      cases i with
      | zero => simpa [pad] using h
      | succ i => simp only [pad, List.getElem?_cons_succ] at h ⊢; exact ih r h
theorem lo_get : ∀ (as : List PV) (i0 : Nat) {i : Nat} {v : PV}, (lo as)[i]? = some (some v) → v ∈ as ∧ (i0 + i, mkV g v) ∈ lv_args i0 (as.map (mkV g)) := by
  intro as
  induction as with
  | nil => intro i0 i v h; simp [lo] at h
  | cons a as ih =>
    intro i0 i v h
    match a, h with
    | .inl z, h =>
      cases i with
      | zero =>
        simp only [lo, List.getElem?_cons_zero, Option.some.injEq] at h
        subst h
        exact ⟨List.mem_cons_self, List.mem_cons_self⟩
      | succ i =>
        simp only [lo, List.getElem?_cons_succ] at h
        obtain ⟨h1, h2⟩ := ih (i0 + 1) h
        exact ⟨List.mem_cons_of_mem _ h1, List.mem_cons_of_mem _ (by rw [show i0 + (i + 1) = i0 + 1 + i by omega]; exact h2)⟩
    | .inr (.inr z), h =>
      cases i with
      | zero =>
        simp only [lo, List.getElem?_cons_zero, Option.some.injEq] at h
        subst h
        exact ⟨List.mem_cons_self, List.mem_cons_self⟩
      | succ i =>
        simp only [lo, List.getElem?_cons_succ] at h
        obtain ⟨h1, h2⟩ := ih (i0 + 1) h
        exact ⟨List.mem_cons_of_mem _ h1, List.mem_cons_of_mem _ (by rw [show i0 + (i + 1) = i0 + 1 + i by omega]; exact h2)⟩
    | .inr (.inl z), h =>
      cases i with
      | zero =>
        simp only [lo, List.getElem?_cons_zero, Option.some.injEq] at h
        subst h
        exact ⟨List.mem_cons_self, List.mem_cons_self⟩
      | succ i =>
        cases i with
        | zero => simp [lo] at h
        | succ i =>
          simp only [lo, List.getElem?_cons_succ] at h
          obtain ⟨h1, h2⟩ := ih (i0 + 2) h
          exact ⟨List.mem_cons_of_mem _ h1, List.mem_cons_of_mem _ (by rw [show i0 + (i + 1 + 1) = i0 + 2 + i by omega]; exact h2)⟩
theorem sl_len (as : List PV) : (lg_sl (as.map (mkV g))).length = catS as := by
  induction as with
  | nil => rfl
  | cons a as ih =>
    match a with
    | .inl z => simp only [List.map_cons, lg_sl, List.flatMap_cons, catS, catP] at ih ⊢; rw [List.length_append, ih]; rfl
    | .inr (.inl z) => simp only [List.map_cons, lg_sl, List.flatMap_cons, catS, catP] at ih ⊢; rw [List.length_append, ih]; rfl
    | .inr (.inr z) => simp only [List.map_cons, lg_sl, List.flatMap_cons, catS, catP] at ih ⊢; rw [List.length_append, ih]; rfl
theorem mchk_ok {k : Nat} (h : mchk k = true) : (yN k).cls = ownS (ownN k) ∧ plainFor (yN k) = true ∧ Cond.initialized (ownS (ownN k)) ∈ GWl ∧ (parseMethodDescriptor (yN k).desc).map (fun d => d.parameters.length) = some (if statN k then nargN k else nargN k - 1) ∧ ((yN k).cls ≠ "java/lang/invoke/MethodHandle" ∧ (yN k).cls ≠ "java/lang/invoke/VarHandle") ∧ (if statN k then Cond.static (yN k) ∈ GWl else Cond.instanceMethod (yN k) ∈ GWl ∧ 0 < nargN k) := by
  unfold mchk at h
  simp only [Bool.and_eq_true, decide_eq_true_eq] at h
  obtain ⟨⟨⟨⟨⟨h1, h2⟩, h3⟩, h4⟩, h5⟩, h6⟩ := h
  refine ⟨h1, h2, gwAt_mem h3, h4, h5, ?_⟩
  by_cases hs : statN k = true
  · rw [if_pos hs] at h6 ⊢; exact gwAt_mem h6
  · rw [if_neg hs] at h6 ⊢
    simp only [Bool.and_eq_true, decide_eq_true_eq] at h6
    exact ⟨gwAt_mem h6.1, h6.2⟩
/-- a method's contract, out of what its start reaches -/
theorem met_of {k : Nat} {as : List PV} {P : PQ} (hlt : l.stackTraces = false) (hk : mchk k = true) (hl : catS as ≤ maxLN k) (hr : ∀ v, v ∈ as → rngV v) (h : SemX k 0 (pad (maxLN k) (lo as)) [] sh 0 0 σ P) : Met l (yN k) (wsN k) (roomN k) (PreK g sh σ as) (PostK g k sh P) (mcN k) (msN k) (gA g) := by
  obtain ⟨m1, m2, m3, m4, m5, m6⟩ := mchk_ok hk
  refine va_MetF (cc := bytesN k) (maxL := maxLN k) (ret := retF (retN k)) m2 rfl ?_
  intro p e s m args below meth c s₁ B hml hv
  obtain ⟨rfl, hctx, hworld, hop⟩ := hv
  have hts := atoms_spec (ws := wsN k) B.pre
  have hown : s.vm.findClass (ownS (ownN k)) = some m.cls := by rw [← m1]; exact findClass_of_methodNamed B.named
  rw [lg_entry_eq]
  refine h g p l e _ s m _ below meth c _ (isOpen sh) s.heap [] _ ⟨⟨B.exec, B.bytes, hml, hown, fun w hw => hts w (List.mem_cons_of_mem _ hw), fun hn => (name_of_methodNamed B.named B.method).1.trans hn, B.notSynchronized, B.returns, ⟨rfl, hlt⟩, hctx⟩, ?_, ?_, ?_, fun v hv => absurd hv List.not_mem_nil, hworld, va_S.rf, Nat.zero_le _, Nat.zero_le _, fun q => ⟨hop q, q⟩⟩
  · intro r sh' σ' H' locs' c' s' pc' ls' hP hW hS hro hsz hrn hri
    have hq : ∀ t : State, t.heap = H' → PostK g k sh P ((as.map (mkV g)).toArray) s (.returned (r.map (mkV g))) t := fun t ht => ⟨⟨r, sh', σ', rfl, hP, hrn, by rw [ht]; exact hW, fun q => by
      have h1 := hsz q
      rw [hro.2.2 q] at h1
      exact h1⟩, hS.F ht⟩
    refine W.widen (k := mcN k) (n := msN k) hro.1 hro.2.1 ?_
    match r, hri with
    | some (.inl v), hri =>
      obtain ⟨hd, hr1 | ⟨hr3, hv⟩⟩ := hri
      · exact W.iret (v := Int32.ofInt v) B.exec B.bytes (by rw [B.returns, hr1]; rfl) (fun t ht _ => hq t ht) hS.2.2 hd
      · exact W.zret (v := Int32.ofInt v) (ty := .boolean) B.exec B.bytes (by rw [B.returns, hr3]; rfl) (by rcases hv with rfl | rfl <;> rfl) (fun t ht _ => hq t ht) hS.2.2 hd
    | some (.inr (.inl v)), hri =>
      obtain ⟨hd, hr2⟩ := hri
      exact W.lret (v := Int64.ofInt v) B.exec B.bytes (by rw [B.returns, hr2]; rfl) (fun t ht _ => hq t ht) hS.2.2 hd
    | none, hri =>
      obtain ⟨hd, hr0⟩ := hri
      exact W.vret B.exec B.bytes (by rw [B.returns, hr0]; rfl) (fun t ht _ => hq t ht) hS.2.2 hd
  · refine lv_weak (lv_entry (as.map (mkV g)) (by rw [sl_len]; exact hl)) fun q hq => ?_
    obtain ⟨v, h1, h2⟩ := mem_asl.mp hq
    have := (lo_get (g := g) as 0 (pad_get _ _ h1)).2
    rw [Nat.zero_add, ← h2] at this
    exact this
  · intro v hv
    obtain ⟨i, hi⟩ := List.getElem?_of_mem hv
    exact hr v (lo_get (g := g) as 0 (pad_get _ _ hi)).1
theorem good_GW {ws : List Cond} (h : ∀ w ∈ ws, w ∈ GWl) : GoodIn GWl ws := fun w hw => ⟨h w hw, good_of_word (List.mem_filter.mp (h w hw)).2⟩
theorem preK_blind {as : List PV} : FrameBlind (PreK g sh σ as) := by
  intro a U f mk q
  obtain ⟨q1, q2, q3, q4⟩ := q
  exact ⟨q1, q2.blind f mk a, q3, q4⟩
/-- behind a call -/
theorem call_go {k : Nat} {st0 : List Value} {rest : List Value} {P : PQ} {a : Array Value} (hr : va_Run p l e Rm s₀ m args below meth cd H locs c s (mcN k) (msN k) (F0 m pc ls st0) rest (PostK g k sh P a) (gA g)) (hS : va_S (gA g) s₀.heap H locs)
    (kk : ∀ (r : Option PV) (sh' : Sh) (σ' : Mm) (H1 : Heap) (locs1 : List Loc), P r sh' σ' → (∀ v, r = some v → rngV v) → World g sh' σ' H1 → va_S (gA g) s₀.heap H1 locs1 → (isOpen sh' = true → H.size + mcN k = gBase g + (sh'.length - 3) ∧ isOpen sh = true) → W p l e Rm s₀ m args below meth cd H1 locs1 (c + mcN k) (s + msN k) Z (F0 m (pc + 3) ls ((r.map (mkV g)).toList ++ rest))) :
    W p l e Rm s₀ m args below meth cd H locs c s Z (F0 m pc ls st0) := by
  intro T hT X
  obtain ⟨v, st₀, t, T', L', h0, X', hL, e1, e2, ⟨⟨r, sh', σ', hv, hp, hrn, hw, hop⟩, hz, hk⟩, st⟩ := hr T hT X
  cases hv
  rw [h0] at hz hk hop
  obtain ⟨t2, a1, b1⟩ := kk r sh' σ' T'.heap (locs ++ L') hp hrn (by rw [e1]; exact hw) ⟨Nat.le_trans hS.1 (by rw [e1]; exact hz), fun q h1 h2 => by rw [e1, hk q (Nat.lt_of_lt_of_le h1 hS.1) h2]; exact hS.2.1 q h1 h2, fun q hq => by
      rcases List.mem_append.mp hq with h | h
      · exact hS.2.2 q h
      · exact hL q h⟩ hop T' rfl X'
  exact ⟨t2, st t2 a1, b1⟩
theorem rev_eq (l acc : List PV) : rev l acc = l.reverse ++ acc := by
  induction l generalizing acc with
  | nil => rfl
  | cons x r ih => simp [rev, ih]
/-- what a call's words are, whichever kind of call it is; X: how it is run -/
theorem call_any {k : Nat} (A : AtF g j p l e Rm s₀ m args below meth cd Z op Q H locs ls L S sh c s σ) 
    (run : ∀ (P : PQ), cg k S = true → H.size ≤ s₀.heap.size + c → c + mcN k ≤ mcN j → s + msN k ≤ msN j → Met l (yN k) (wsN k) (roomN k) (PreK g sh σ ((S.take (nargN k)).reverse)) (PostK g k sh P) (mcN k) (msN k) (gA g) → (∀ U : State, U.heap = H → s₀.WarmedH U.vm → PreK g sh σ ((S.take (nargN k)).reverse) ((((S.take (nargN k)).reverse).map (mkV g)).toArray) U) → ∃ a, va_Run p l e Rm s₀ m args below meth cd H locs c s (mcN k) (msN k) (F0 m pc ls (S.map (mkV g))) ((S.drop (nargN k)).map (mkV g)) (PostK g k sh P a) (gA g))
    (h : callW SemX SemX k j pc L S sh c s σ Q) : W p l e Rm s₀ m args below meth cd H locs c s Z (F0 m pc ls (S.map (mkV g))) := by
  unfold callW at h
  split at h
  · exact h.elim
  · rename_i hcg
    obtain ⟨h1, h2, h⟩ := h
    have hcg2 := hcg
    unfold cg at hcg2
    simp only [Bool.and_eq_true] at hcg2
    obtain ⟨g0, g1, g2, g3⟩ := hcg2
    have hk : mchk k = true := by
      unfold okK at g0
      simp only [Bool.and_eq_true, Bool.not_eq_true'] at g0
      exact mchk_all (Nat.le_of_ble_eq_true g0.1) (Nat.ne_of_beq_eq_false g0.2.1) (Nat.ne_of_beq_eq_false g0.2.2)
    have g1 := Nat.le_of_ble_eq_true g1
    have g2 := Nat.le_of_ble_eq_true g2
    have g3 := Nat.eq_of_beq_eq_true g3
    have r := A.rS
    have wo := A.2.2.2.2.2.1
    have hS := A.2.2.2.2.2.2.1
    refine W_size fun hz0 => ?_
    have catrev : ∀ l : List PV, catS l.reverse = catS l := by
      intro l
      have : ∀ (a b : List PV), catS (a ++ b) = catS a + catS b := by
        intro a b
        induction a with
        | nil => simp [catS]
        | cons x a ih => simp only [List.cons_append, catS, ih]; omega
      induction l with
      | nil => rfl
      | cons x l ih => rw [List.reverse_cons, this, ih]; simp only [catS]; omega
    have rargs : ∀ v, v ∈ (S.take (nargN k)).reverse → rngV v := fun v hv => r v (List.mem_of_mem_take (List.mem_reverse.mp hv))
    have rrest : ∀ v, v ∈ S.drop (nargN k) → rngV v := fun v hv => r v (List.mem_of_mem_drop hv)
    have pre : ∀ U : State, U.heap = H → s₀.WarmedH U.vm → PreK g sh σ ((S.take (nargN k)).reverse) ((((S.take (nargN k)).reverse).map (mkV g)).toArray) U := fun U hU hW => ⟨rfl, A.1.2.2.2.2.2.2.2.2.2.go hS hU hW, by rw [hU]; exact wo, fun q => by rw [hU]; exact A.size q hz0⟩
    have key : ∀ (P : PQ), SemX k 0 (pad (maxLN k) (lo (rev (S.take (nargN k)) []))) [] sh 0 0 σ P → (∀ (r : Option PV) (sh' : Sh) (σ' : Mm), P r sh' σ' → SemX j (pc + 3) L (r.toList ++ S.drop (nargN k)) sh' (c + mcN k) (s + msN k) σ' Q) → W p l e Rm s₀ m args below meth cd H locs c s Z (F0 m pc ls (S.map (mkV g))) := by
      intro P hx hy
      rw [rev_eq, List.append_nil] at hx
      have hM := met_of (g := g) (l := l) A.1.2.2.2.2.2.2.2.2.1.2 hk (by rw [catrev]; exact g2) rargs hx
      obtain ⟨a, hrun⟩ := run P hcg hz0 h1 h2 hM pre
      refine call_go hrun hS (fun r' sh' σ' H1 locs1 q1 q2 q3 q4 q5 => ?_)
      have hA : AtF g j p l e Rm s₀ m args below meth cd Z op Q H1 locs1 ls L (r'.toList ++ S.drop (nargN k)) sh' (c + mcN k) (s + msN k) σ' := by
        refine ⟨A.1, A.2.1, A.2.2.1, A.2.2.2.1, fun v hv => ?_, q3, q4, h1, h2, fun q => ?_⟩
        · rcases List.mem_append.mp hv with hv | hv
          · cases r' with
            | none => cases hv
            | some u => exact q2 v (by rw [List.mem_singleton.mp hv])
          · exact rrest v hv
        · obtain ⟨w1, w2⟩ := q5 q
          have w3 := A.size w2 hz0
          have w4 := A.2.2.2.2.2.2.2.2.2 w2
          exact ⟨by omega, w4.2⟩
      have := hy r' sh' σ' q1 _ _ _ _ _ _ _ _ _ _ _ _ _ _ _ _ hA
      refine W.eq ?_ this
      cases r' <;> simp
    split at h
    · exact key _ h (fun r' sh' σ' q => by rw [q.1]; exact q.2)
    · exact key _ h (fun r' sh' σ' q => by obtain ⟨v, q1, q2⟩ := q; rw [q1]; exact q2)
    · exact key _ h (fun r' sh' σ' q => by obtain ⟨v, q1, q2⟩ := q; rw [q1]; exact q2)
end SND6
