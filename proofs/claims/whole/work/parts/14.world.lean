/-! THE WORLD: how the JVM's heap holds the pure machine's cells -/
/-- base, POWERS, the script, the text of words; the script's length; its ints; classes; the array classes of int, byte, boolean, long -/
abbrev GD : Type := (Nat × Nat × Nat × Nat × Nat) × (Nat → Int32) × va_G × (ClassId × ClassId × ClassId × ClassId)
abbrev gBase (g : GD) : Nat := g.1.1
abbrev gT (g : GD) : Nat := g.1.2.1
abbrev gB (g : GD) : Nat := g.1.2.2.1
abbrev gWo (g : GD) : Nat := g.1.2.2.2.1
abbrev gN (g : GD) : Nat := g.1.2.2.2.2
abbrev gXs (g : GD) : Nat → Int32 := g.2.1
abbrev gDD (g : GD) : va_G := g.2.2.1
abbrev gcI (g : GD) : ClassId := g.2.2.2.1
abbrev gcB (g : GD) : ClassId := g.2.2.2.2.1
abbrev gcZ (g : GD) : ClassId := g.2.2.2.2.2.1
abbrev gcJ (g : GD) : ClassId := g.2.2.2.2.2.2
def adr (g : GD) : Nat → Nat
  | 0 => gT g
  | 1 => gB g
  | 2 => gWo g
  | k + 3 => gBase g + k
def mkV (g : GD) : PV → Value
  | .inl z => .int (Int32.ofInt z)
  | .inr (.inl z) => .long (Int64.ofInt z)
  | .inr (.inr k) => .ref (adr g k)
def fldV (g : GD) (σ : Mm) (rs : List (Option Nat)) (k i ty : Nat) : Value := match ty with
  | 3 => match rs[i]? with
    | some (some r) => .ref (adr g r)
    | _ => .null
  | 2 => .long (Int64.ofInt (σ.2 k i))
  | _ => .int (Int32.ofInt (σ.1 k i))
def objV (g : GD) (σ : Mm) (rs : List (Option Nat)) (k ci : Nat) : List Value := (ftyL ci).zipIdx.map (fun q => fldV g σ rs k q.2 q.1)
def arrE (g : GD) (σ : Mm) (k ty n : Nat) : va_E := match ty with
  | 3 => .inl (gcJ g, n, .inr (.inl (fun i => Int64.ofInt (σ.2 k i))))
  | 2 => .inl (gcZ g, n, .inl (fun i => Int32.ofInt (σ.1 k i)))
  | 1 => .inl (gcB g, n, .inl (fun i => Int32.ofInt (σ.1 k i)))
  | _ => .inl (gcI g, n, .inl (fun i => Int32.ofInt (σ.1 k i)))
def cellE (g : GD) (sh : Sh) (σ : Mm) (k : Nat) : va_E := match sh[k]? with
  | some (.inr ci, rs) => .inr (ci, objV g σ rs k ci)
  | some (.inl (ty, n), _) => arrE g σ k ty n
  | none => .inr (0, [])
def wlE (b n : Nat) (E : Nat → va_E) : va_W := (List.range n).map (fun k => (b + k, E (k + 3)))
theorem wlE_get {b n : Nat} {E : Nat → va_E} {k : Nat} (h : k < n) : (wlE b n E)[k]? = some (b + k, E (k + 3)) := by
  simp [wlE, h]
theorem wlE_inv {b n : Nat} {E : Nat → va_E} {k : Nat} {q : Nat × va_E} (h : (wlE b n E)[k]? = some q) : k < n ∧ q = (b + k, E (k + 3)) := by
  have hk : k < n := by
    have := (List.getElem?_eq_some_iff.mp h).1
    simpa [wlE] using this
  exact ⟨hk, Option.some.inj (h.symm.trans (wlE_get hk))⟩
theorem wlE_set {b n : Nat} {E E' : Nat → va_E} {k : Nat} (h : k < n) (ho : ∀ j, j ≠ k + 3 → E' j = E j) : (wlE b n E).set k (b + k, E' (k + 3)) = wlE b n E' := by
  apply List.ext_getElem?
  intro j
  rw [List.getElem?_set]
  by_cases hj : k = j
  · subst hj
    have hl : k < (wlE b n E).length := by simp [wlE, h]
    simp only [if_true, hl, wlE_get h]
  · rw [if_neg hj]
    by_cases hn : j < n
    · rw [wlE_get hn, wlE_get hn, ho (j + 3) (by omega)]
    · have h1 : (wlE b n E)[j]? = none := List.getElem?_eq_none (by simp [wlE]; omega)
      have h2 : (wlE b n E')[j]? = none := List.getElem?_eq_none (by simp [wlE]; omega)
      rw [h1, h2]
theorem wlE_congr {b n : Nat} {E E' : Nat → va_E} (h : ∀ k, k < n → E' (k + 3) = E (k + 3)) : wlE b n E' = wlE b n E := by
  apply List.ext_getElem?
  intro j
  by_cases hn : j < n
  · rw [wlE_get hn, wlE_get hn, h j hn]
  · have h1 : (wlE b n E)[j]? = none := List.getElem?_eq_none (by simp [wlE]; omega)
    have h2 : (wlE b n E')[j]? = none := List.getElem?_eq_none (by simp [wlE]; omega)
    rw [h1, h2]
theorem wlE_push {b n : Nat} {E : Nat → va_E} : wlE b (n + 1) E = wlE b n E ++ [(b + n, E (n + 3))] := by
  simp [wlE, List.range_succ]
theorem wlE_D {b n : Nat} {E : Nat → va_E} : va_D (fun q => b ≤ q) (wlE b n E) := by
  refine ⟨fun i j p q hp hq he => ?_, fun k q hq => ?_⟩
  · obtain ⟨-, rfl⟩ := wlE_inv hp
    obtain ⟨-, rfl⟩ := wlE_inv hq
    have he : b + i = b + j := he
    omega
  · obtain ⟨-, rfl⟩ := wlE_inv hq
    exact Nat.le_add_right b k
def gA (g : GD) : Nat → Prop := fun q => gBase g ≤ q
def gTy (g : GD) : List (ClassId × FieldType) := [(gcI g, .int), (gcB g, .byte), (gcZ g, .boolean), (gcJ g, .long)]
def pw (i : Nat) : Int := (([1, 3, 9, 27, 81, 243] : List Int)[i]?).getD 0
def wdL : List Int := [106, 117, 100, 103, 101, 32, 99, 97, 117, 115, 101, 32, 99, 108, 101, 114, 107, 32, 100, 97, 109, 112, 32, 98, 101, 97, 116, 32, 108, 97, 119, 32, 116, 104, 105, 110, 107, 32, 115, 97, 121, 32, 102, 108, 121, 32, 111, 114, 32, 97, 110, 100, 32, 110, 111, 116, 32, 108, 101, 97, 110, 32, 115, 116, 105, 102, 102, 32, 103, 114, 97, 118, 101, 32, 112, 108, 117, 109, 112, 32, 109, 111, 105, 115, 116, 32, 115, 117, 114, 101, 32, 100, 97, 121, 32]
def wd (i : Nat) : Int := (wdL[i]?).getD 0
def ShOK (g : GD) (sh : Sh) : Prop := 3 ≤ sh.length ∧ (∃ f, sh[0]? = some (.inl (4, 6), f)) ∧ (∃ f, sh[1]? = some (.inl (5, gN g), f)) ∧ (∃ f, sh[2]? = some (.inl (9, 0), f)) ∧
  (∀ (k ty n : Nat) (rs : List (Option Nat)), 3 ≤ k → sh[k]? = some (.inl (ty, n), rs) → ty ≤ 3) ∧ (∀ (k ty n : Nat) (rs : List (Option Nat)), sh[k]? = some (.inl (ty, n), rs) → n < 2147483648) ∧
  (∀ (k ci : Nat) (rs : List (Option Nat)), sh[k]? = some (.inr ci, rs) → rs.length = (ftyL ci).length ∧ ci < 11)
def MemOK (g : GD) (σ : Mm) : Prop := (∀ i, i < 6 → σ.1 0 i = pw i) ∧ (∀ i, i < gN g → Int32.ofInt (σ.1 1 i) = gXs g i) ∧ (∀ i, i < 95 → σ.1 2 i = wd i) ∧ (∀ a b, in32 (σ.1 a b)) ∧ (∀ a b, in64 (σ.2 a b))
def World (g : GD) (sh : Sh) (σ : Mm) (H : Heap) : Prop := va_P (gDD g) vwCl (wlE (gBase g) (sh.length - 3) (cellE g sh σ)) H ∧ ShOK g sh ∧ MemOK g σ
def yPlace : MethodName := ⟨"CushionCourt", "placeOf", "(I[II)I"⟩
def txW : String := "judge cause clerk damp beat law think say fly or and not lean stiff grave plump moist sure day "
theorem nw_warmD {x : MethodName} {s U : State} (hW : s.WarmedH U.vm) (hZ : va_Nw (.declares x) s) : va_Nw (.declares x) U := va_tabs rfl (rfl : (s.setVm U.vm).vm = U.vm) (by rw [Cond.declares_setVm hW.alike]; exact hZ)
/-- what throwing asks: the two texts, Throwable's statics, which class isn't the other -/
def ExcC (g : GD) (U : State) : Prop := (∃ sa : Nat, vk_R "CushionCourt" 152 "no such case" sa U) ∧ (∃ sa : Nat, vk_R "CushionCourt" 177 "no such what" sa U) ∧ vx_Zq Bundle.tN "UNASSIGNED_STACK" Bundle.steD (gA g) U U.heap ∧ vx_Zq Bundle.tN "SUPPRESSED_SENTINEL" Bundle.listD (gA g) U U.heap ∧ va_Nc "java/util/NoSuchElementException" "java/lang/IndexOutOfBoundsException" U ∧ va_Nw (.castable "java/lang/IndexOutOfBoundsException" "java/lang/IndexOutOfBoundsException") U ∧ va_Nw (.castable "java/util/NoSuchElementException" "java/util/NoSuchElementException") U ∧ va_Nw (.declares (Bundle.initS "java/lang/RuntimeException")) U ∧ va_Nw (.declares (Bundle.initS "java/lang/Exception")) U ∧ va_Nw (.declares (Bundle.initS Bundle.tN)) U
theorem ExcC.go {g : GD} {s U : State} (h : ExcC g s) (hk : ∀ a : Nat, a < s.heap.size → ¬ gA g a → U.heap[a]? = s.heap[a]?) (hW : s.WarmedH U.vm) : ExcC g U := by
  obtain ⟨⟨a, h1⟩, ⟨b, h2⟩, h3, h4, h5, h6, h7, h8, h9, h10⟩ := h
  exact ⟨⟨a, vk_R.warm hW h1⟩, ⟨b, vk_R.warm hW h2⟩, (h3.kept hk).moved hW.alike, (h4.kept hk).moved hW.alike, h5.moved hW.alike, va_Nw.warmC hW h6, va_Nw.warmC hW h7, nw_warmD hW h8, nw_warmD hW h9, nw_warmD hW h10⟩
theorem ExcC.blind {g : GD} {U : State} (h : ExcC g U) (f : JFrame) (mk : MethodId) (a : Array Value) : ExcC g (U.calling f mk a) := by
  obtain ⟨⟨x, h1⟩, ⟨y, h2⟩, h3, h4, h5, h6, h7, h8, h9, h10⟩ := h
  exact ⟨⟨x, vk_R.same (u := U) (U := U.calling f mk a) rfl h1⟩, ⟨y, vk_R.same (u := U) (U := U.calling f mk a) rfl h2⟩, vx_Zq.moved (u := U) (U := U.calling f mk a) (Vm.Alike.refl U.vm) h3, vx_Zq.moved (u := U) (U := U.calling f mk a) (Vm.Alike.refl U.vm) h4, va_Nc.moved (u := U) (U := U.calling f mk a) (Vm.Alike.refl U.vm) h5, va_Nw.same (u := U) (U := U.calling f mk a) rfl rfl h6, va_Nw.same (u := U) (U := U.calling f mk a) rfl rfl h7, va_Nw.same (u := U) (U := U.calling f mk a) rfl rfl h8, va_Nw.same (u := U) (U := U.calling f mk a) rfl rfl h9, va_Nw.same (u := U) (U := U.calling f mk a) rfl rfl h10⟩
/-- the text of words, and what the JDK's String asks of statics -/
def StrC (g : GD) (U : State) : Prop := vk_R "CushionCourt$Reader" 26 txW (gWo g) U ∧ va_O "java/lang/String" (gWo g) (gA g) U U.heap ∧ va_OF "java/lang/String" "coder" "B" (.int 0) (gWo g) (gA g) U U.heap ∧
  (∃ aV : Nat, va_OF "java/lang/String" "value" "[B" (.ref aV) (gWo g) (gA g) U U.heap ∧ va_T .byte aV 95 (fun j => .int (Int32.ofInt (wd j))) (gA g) U U.heap) ∧ va_Z "java/lang/String" "COMPACT_STRINGS" "Z" (.int 1) (gA g) U U.heap ∧ va_Zq "jdk/internal/util/Preconditions" "SIOOBE_FORMATTER" "Ljava/util/function/BiFunction;" (gA g) U U.heap ∧ ExcC g U
theorem StrC.go {g : GD} {s U : State} (h : StrC g s) (hk : ∀ a : Nat, a < s.heap.size → ¬ gA g a → U.heap[a]? = s.heap[a]?) (hW : s.WarmedH U.vm) : StrC g U := by
  obtain ⟨h1, h2, h3, ⟨aV, h4, h5⟩, h6, h7, h8⟩ := h
  exact ⟨vk_R.warm hW h1, (h2.kept hk).moved hW.alike, (h3.kept hk).moved hW.alike, ⟨aV, (h4.kept hk).moved hW.alike, (h5.kept hk).moved hW.alike⟩, (h6.kept hk).moved hW.alike, (h7.kept hk).moved hW.alike, h8.go hk hW⟩
theorem StrC.blind {g : GD} {U : State} (h : StrC g U) (f : JFrame) (mk : MethodId) (a : Array Value) : StrC g (U.calling f mk a) := by
  obtain ⟨h1, h2, h3, ⟨aV, h4, h5⟩, h6, h7, h8⟩ := h
  exact ⟨vk_R.same (u := U) (U := U.calling f mk a) rfl h1, va_O.moved (u := U) (U := U.calling f mk a) (Vm.Alike.refl U.vm) h2, va_OF.moved (u := U) (U := U.calling f mk a) (Vm.Alike.refl U.vm) h3, ⟨aV, va_OF.moved (u := U) (U := U.calling f mk a) (Vm.Alike.refl U.vm) h4, va_T.moved (u := U) (U := U.calling f mk a) (Vm.Alike.refl U.vm) h5⟩, va_Z.moved (u := U) (U := U.calling f mk a) (Vm.Alike.refl U.vm) h6, va_Zq.moved (u := U) (U := U.calling f mk a) (Vm.Alike.refl U.vm) h7, h8.blind f mk a⟩
/-- what the tables and the statics say at a state -/
def CtxS (g : GD) (U : State) : Prop := gBase g ≤ U.heap.size ∧ va_K (gDD g) vwCl (gTy g) U ∧ va_Z "CushionCourt$Dealing" "POWERS" "[I" (.ref (gT g)) (gA g) U U.heap ∧
  va_T .int (gT g) 6 (fun j => .int (Int32.ofInt (pw j))) (gA g) U U.heap ∧ va_X (gB g) (gN g) (gXs g) U U.heap ∧ gB g < gBase g ∧ va_Nw (.methodLinkNest "CushionCourt$Reader" 194 yPlace "CushionCourt") U ∧ StrC g U
theorem CtxS.go {g : GD} {s U : State} {H : Heap} {locs : List Loc} (h : CtxS g s) (hS : va_S (gA g) s.heap H locs) (hU : U.heap = H) (hW : s.WarmedH U.vm) : CtxS g U := by
  obtain ⟨h1, h2, h3, h4, h5, h6, h7, h8⟩ := h
  have hk : ∀ a : Nat, a < s.heap.size → ¬ gA g a → U.heap[a]? = s.heap[a]? := fun a ha hn => by rw [hU]; exact hS.2.1 a ha hn
  refine ⟨by rw [hU]; exact Nat.le_trans h1 hS.1, h2.moved hW.alike, (h3.kept hk).moved hW.alike, (h4.kept hk).moved hW.alike, (h5.kept (hk _ (by omega) (fun q => by have q : gBase g ≤ gB g := q; omega))).moved hW.alike, h6, va_Nw.warmM hW h7, h8.go hk hW⟩
theorem CtxS.blind {g : GD} {U : State} (h : CtxS g U) (f : JFrame) (mk : MethodId) (a : Array Value) : CtxS g (U.calling f mk a) := by
  obtain ⟨h1, h2, h3, h4, h5, h6, h7, h8⟩ := h
  exact ⟨h1, va_K.moved (u := U) (U := U.calling f mk a) (Vm.Alike.refl U.vm) h2, va_Z.moved (u := U) (U := U.calling f mk a) (Vm.Alike.refl U.vm) h3, va_T.moved (u := U) (U := U.calling f mk a) (Vm.Alike.refl U.vm) h4, va_X.moved (u := U) (U := U.calling f mk a) (Vm.Alike.refl U.vm) h5, h6, va_Nw.same (u := U) (U := U.calling f mk a) rfl rfl h7, h8.blind f mk a⟩
def roomN (j : Nat) : Room := { frames := frN j, cells := mcN j, slots := msN j, locals := loN j }
/-- a frame of method j -/
def FrameOK (g : GD) (j : Nat) (p : Program) (l : Launch) (e : Env) (Rm : Room) (s : State) (m : MethodId) (args : Array Value) (below : List Frame) (meth : Method) (cd : Code) : Prop :=
  p.tables.exec = Jvm.exec ∧ cd.code = bytesN j ∧ cd.maxLocals = maxLN j ∧ s.vm.findClass (ownS (ownN j)) = some m.cls ∧ (∀ w ∈ GWl, w.before args s = true) ∧ ((yN j).name = "<init>" → meth.name = "<init>") ∧ meth.locks = false ∧ meth.sig.returnType = retF (retN j) ∧ (Rm = roomN j ∧ l.stackTraces = false) ∧ CtxS g s
def asl (g : GD) (L : List (Option PV)) : List (Nat × Value) := L.zipIdx.filterMap (fun q => q.1.map (fun v => (q.2, mkV g v)))
theorem mem_asl {g : GD} {L : List (Option PV)} {q : Nat × Value} : q ∈ asl g L ↔ ∃ v, L[q.1]? = some (some v) ∧ q.2 = mkV g v := by
  simp only [asl, List.mem_filterMap, Option.map_eq_some_iff]
  constructor
  · rintro ⟨⟨o, i⟩, h1, v, h2, rfl⟩
    rw [List.mem_zipIdx_iff_getElem?] at h1
    simp only at h1 h2
    subst h2
    exact ⟨v, h1, rfl⟩
  · rintro ⟨v, h1, h2⟩
    refine ⟨(some v, q.1), ?_, v, rfl, ?_⟩
    · rw [List.mem_zipIdx_iff_getElem?]; exact h1
    · rw [← h2]
def LocOK (g : GD) (ls : Array Slot) (n : Nat) (L : List (Option PV)) : Prop := lv_has ls n (asl g L)
theorem loc_at {g : GD} {ls : Array Slot} {n : Nat} {L : List (Option PV)} (h : LocOK g ls n L) {i : Nat} {v : PV} (hi : L[i]? = some (some v)) : ls[i]? = some (.val (mkV g v)) :=
  h.2.2 (i, mkV g v) (mem_asl.mpr ⟨v, hi, rfl⟩)
theorem lv_weak {ls : Array Slot} {n : Nat} {l l' : List (Nat × Value)} (h : lv_has ls n l) (hl : ∀ q ∈ l', q ∈ l) : lv_has ls n l' := ⟨h.1, h.2.1, fun q hq => h.2.2 q (hl q hq)⟩
theorem catV (g : GD) (v : PV) : (mkV g v).category = catP v := by
  match v with
  | .inl _ => rfl
  | .inr (.inl _) => rfl
  | .inr (.inr _) => rfl
theorem getO_set {L : List (Option PV)} {i a : Nat} {x : Option PV} {u : PV} (h : (L.set i x)[a]? = some (some u)) : (a = i ∧ x = some u) ∨ (a ≠ i ∧ L[a]? = some (some u)) := by
  rw [List.getElem?_set] at h
  by_cases hi : i = a
  · subst hi
    simp only [if_true] at h
    split at h
    · exact Or.inl ⟨rfl, Option.some.inj h⟩
    · cases h
  · rw [if_neg hi] at h
    exact Or.inr ⟨fun e => hi e.symm, h⟩
theorem st1_get {L : List (Option PV)} {i a : Nat} {v u : PV} (h : (st1 L i v)[a]? = some (some u)) : (a = i ∧ u = v) ∨ (a ≠ i ∧ L[a]? = some (some u) ∧ (a + 1 = i → catP u ≠ 2)) := by
  unfold st1 at h
  split at h
  · rcases getO_set h with ⟨h1, h2⟩ | ⟨h1, h2⟩
    · exact Or.inl ⟨h1, (Option.some.inj h2).symm⟩
    · exact Or.inr ⟨h1, h2, fun e => by omega⟩
  · rename_i i'
    split at h
    · rename_i z hz
      rcases getO_set h with ⟨h1, h2⟩ | ⟨h1, h2⟩
      · exact Or.inl ⟨h1, (Option.some.inj h2).symm⟩
      · rcases getO_set h2 with ⟨h3, h4⟩ | ⟨h3, h4⟩
        · cases h4
        · exact Or.inr ⟨h1, h4, fun e => absurd (by omega) h3⟩
    · rename_i hz
      rcases getO_set h with ⟨h1, h2⟩ | ⟨h1, h2⟩
      · exact Or.inl ⟨h1, (Option.some.inj h2).symm⟩
      · refine Or.inr ⟨h1, h2, fun e hc => ?_⟩
        have e2 : a = i' := by omega
        subst e2
        match u, hc with
        | .inr (.inl z), _ => exact hz z h2
        | .inl _, hc => exact absurd (show (1 : Nat) = 2 from hc) (by decide)
        | .inr (.inr _), hc => exact absurd (show (1 : Nat) = 2 from hc) (by decide)
theorem loc_st1 {g : GD} {ls' : Array Slot} {n i : Nat} {L : List (Option PV)} {v : PV} (h : lv_has ls' n ((i, mkV g v) :: (asl g L).filter (fun q => !(q.1 == i) && !(q.1 + 1 == i && q.2.category == 2)))) : LocOK g ls' n (st1 L i v) := by
  refine lv_weak h fun q hq => ?_
  obtain ⟨u, h1, h2⟩ := mem_asl.mp hq
  obtain ⟨a, w⟩ := q
  simp only at h1 h2
  subst h2
  rcases st1_get h1 with ⟨rfl, rfl⟩ | ⟨h3, h4, h5⟩
  · exact List.mem_cons_self
  · refine List.mem_cons_of_mem _ (List.mem_filter.mpr ⟨mem_asl.mpr ⟨u, h4, rfl⟩, ?_⟩)
    have h6 : (a == i) = false := by simpa using h3
    by_cases h7 : a + 1 = i
    · have h8 := h5 h7
      simp [h6, catV, h8]
    · simp [h6, h7]
theorem loc_st2 {g : GD} {ls' : Array Slot} {n i : Nat} {L : List (Option PV)} {z : Int} (h : lv_has ls' n ((i, mkV g (.inr (.inl z))) :: (asl g L).filter (fun q => !(q.1 == i) && (!(q.1 == i + 1) && !(q.1 + 1 == i && q.2.category == 2))))) : LocOK g ls' n (st2 L i z) := by
  refine lv_weak h fun q hq => ?_
  obtain ⟨u, h1, h2⟩ := mem_asl.mp hq
  obtain ⟨a, w⟩ := q
  simp only at h1 h2
  subst h2
  have h1 : ((_root_.id (st1 L i (.inr (.inl z)))).set (i + 1) none)[a]? = some (some u) := h1
  simp only [id] at h1
  rcases getO_set h1 with ⟨_, h9⟩ | ⟨h10, h1⟩
  · cases h9
  rcases st1_get h1 with ⟨rfl, rfl⟩ | ⟨h3, h4, h5⟩
  · exact List.mem_cons_self
  · refine List.mem_cons_of_mem _ (List.mem_filter.mpr ⟨mem_asl.mpr ⟨u, h4, rfl⟩, ?_⟩)
    have h6 : (a == i) = false := by simpa using h3
    have h11 : (a == i + 1) = false := by simpa using h10
    by_cases h7 : a + 1 = i
    · have h8 := h5 h7
      simp [h6, h11, catV, h8]
    · simp [h6, h11, h7]
