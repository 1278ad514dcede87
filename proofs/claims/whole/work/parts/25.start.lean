/-! FROM THE PURE LAW TO THE LAW'S WALK -/
def sh0 (n : Nat) : Sh := [(.inl (4, 6), []), (.inl (5, n), []), (.inl (9, 0), [])]
def mem0 (xs : Nat → Int32) (n : Nat) : Mm := (fun a b => match a with
  | 0 => pw b
  | 1 => if b < n then (xs b).toInt else 0
  | 2 => wd b
  | _ => 0, fun _ _ => 0)
theorem pw_in (b : Nat) : in32 (pw b) := by
  unfold pw
  match b with
  | 0 => constructor <;> decide
  | 1 => constructor <;> decide
  | 2 => constructor <;> decide
  | 3 => constructor <;> decide
  | 4 => constructor <;> decide
  | 5 => constructor <;> decide
  | b + 6 => constructor <;> simp
theorem wd_in (b : Nat) : in32 (wd b) := by
  have h : ∀ v ∈ wdL, 0 ≤ v ∧ v < 128 := by decide +kernel
  unfold wd
  cases hb : wdL[b]? with
  | none => exact in32_0
  | some v =>
    have := h v (List.mem_of_getElem? hb)
    show in32 v
    unfold in32; omega
theorem cls_known {args : Array Value} {s : State} (hts : ∀ w ∈ GWl, w.before args s = true) : ∃ D : va_G, ∀ (ci : Nat) (q : vw_C), vwCl[ci]? = some q → u_Kn s q.1 q.2.1 q.2.2 (D.1 ci) (D.2 ci) := by
  have h : ∀ ci : Nat, ∃ d : ClassId × (Nat → Nat), ∀ q : vw_C, vwCl[ci]? = some q → u_Kn s q.1 q.2.1 q.2.2 d.1 d.2 := by
    intro ci
    cases hq : vwCl[ci]? with
    | none => exact ⟨(0, fun _ => 0), fun q h => by cases h⟩
    | some q =>
      obtain ⟨C, T, N⟩ := q
      obtain ⟨⟨ty, c1, -⟩, hci⟩ := cls_ok hq
      have hins : Cond.instantiable C N ∈ GWl := by
        have hI : ∀ ci, ci < 11 → gwAt ((p_ins[ci]?).getD 0) (match vwCl[ci]? with | some (C, _, N) => .instantiable C N | none => .tt) = true := by decide +kernel
        have := hI ci hci
        rw [hq] at this
        exact gwAt_mem this
      obtain ⟨cC, iS, hk⟩ := u_known hts c1 (hts _ hins)
      exact ⟨(cC, iS), fun q h => by cases h; exact hk⟩
  exact ⟨(fun ci => (Classical.choose (h ci)).1, fun ci => (Classical.choose (h ci)).2), fun ci q hq => Classical.choose_spec (h ci) q hq⟩
theorem arr_known {args : Array Value} {s : State} {ty : FieldType} (h : (Cond.arrayClass ty).before args s = true) : ∃ cA : ClassId, ArrOfT s cA ty ∧ s.vm.findClass ("[" ++ ty.toString) = some cA := by
  obtain ⟨cA, kA, comp, h1, h2, h3⟩ := Cond.arrayClass_spec h
  exact ⟨cA, fun n z => ⟨fun k h => (by cases h), kA, h2, comp, h3⟩, h1⟩
theorem pow_known {args : Array Value} {s : State} {A : Nat → Prop} (hts : ∀ w ∈ lw_tbl, w.before args s = true) (h : (Jvm.Cond.and given_1 narrow_1).before args s = true) (hA : ∀ a : Nat, a < s.heap.size → ¬ A a) : ∃ t : Nat, va_Z "CushionCourt$Dealing" "POWERS" "[I" (.ref t) A s s.heap ∧ va_T .int t 6 (fun j => .int (Int32.ofInt (pw j))) A s s.heap := by
  have hs := flat_of_before _ h
  obtain ⟨t, h1, h2⟩ := va_Tof (tm := .static "CushionCourt$Dealing" "POWERS" "[I") (N := 6) (f := fun j => .int (Int32.ofInt (pw j))) (by decide) (hs (Cond.arrayOf (.static "CushionCourt$Dealing" "POWERS" "[I") .int) (by decide +kernel))
    (va_eqt (hs (Cond.eq (.length (.static "CushionCourt$Dealing" "POWERS" "[I")) (.int 6)) (by decide +kernel)))
    (fun j hj => by
      have h6 : j = 0 ∨ j = 1 ∨ j = 2 ∨ j = 3 ∨ j = 4 ∨ j = 5 := by omega
      rcases h6 with rfl | rfl | rfl | rfl | rfl | rfl
      · exact va_eqt (hs (Cond.eq (.elem (.static "CushionCourt$Dealing" "POWERS" "[I") (.int 0)) (.int 1)) (by decide +kernel))
      · exact va_eqt (hs (Cond.eq (.elem (.static "CushionCourt$Dealing" "POWERS" "[I") (.int 1)) (.int 3)) (by decide +kernel))
      · exact va_eqt (hs (Cond.eq (.elem (.static "CushionCourt$Dealing" "POWERS" "[I") (.int 2)) (.int 9)) (by decide +kernel))
      · exact va_eqt (hs (Cond.eq (.elem (.static "CushionCourt$Dealing" "POWERS" "[I") (.int 3)) (.int 27)) (by decide +kernel))
      · exact va_eqt (hs (Cond.eq (.elem (.static "CushionCourt$Dealing" "POWERS" "[I") (.int 4)) (.int 81)) (by decide +kernel))
      · exact va_eqt (hs (Cond.eq (.elem (.static "CushionCourt$Dealing" "POWERS" "[I") (.int 5)) (.int 243)) (by decide +kernel))) hA
  have hl : Cond.laysStatic "CushionCourt$Dealing" "POWERS" "[I" ∈ lw_tbl := List.mem_of_getElem? (i := 1059) (by decide +kernel)
  have hi : Cond.initialized "CushionCourt$Dealing" ∈ lw_tbl := List.mem_of_getElem? (i := 126) (by decide +kernel)
  exact ⟨t, va_Zref (hts _ hl) (hts _ hi) h1 hA, h2⟩
theorem str_known {args : Array Value} {s : State} {A : Nat → Prop} (hts : ∀ w ∈ lw_tbl, w.before args s = true) (h : (Jvm.Cond.and given_1 narrow_1).before args s = true) (hA : ∀ a : Nat, a < s.heap.size → ¬ A a) : ∃ w : Nat, vk_R "CushionCourt$Reader" 26 txW w s ∧ va_O "java/lang/String" w A s s.heap ∧ va_OF "java/lang/String" "coder" "B" (.int 0) w A s s.heap ∧
    (∃ aV : Nat, va_OF "java/lang/String" "value" "[B" (.ref aV) w A s s.heap ∧ va_T .byte aV 95 (fun j => .int (Int32.ofInt (wd j))) A s s.heap) ∧ va_Z "java/lang/String" "COMPACT_STRINGS" "Z" (.int 1) A s s.heap ∧ va_Zq "jdk/internal/util/Preconditions" "SIOOBE_FORMATTER" "Ljava/util/function/BiFunction;" A s s.heap := by
  have hs := flat_of_before _ h
  obtain ⟨a, c, cA, kA, q1, q2, q3, q4, q5, q6, -⟩ := Cond.exactly_spec (args := args) (first := s) (o := none) (s := s) (idx := []) (t := .string "CushionCourt$Reader" 26) (cls := "java/lang/String") (hs (Cond.exactly (.string "CushionCourt$Reader" 26) "java/lang/String") (by decide +kernel))
  have hel : ∀ j, j < 95 → Cond.eq (.elem (.field (.string "CushionCourt$Reader" 26) "java/lang/String" "value" "[B") (.int (Int32.ofNat j))) (.int (Int32.ofInt (wd j))) ∈ flatC (Jvm.Cond.and given_1 narrow_1) := by decide +kernel
  obtain ⟨t, ht, hT⟩ := va_Tof (tm := .field (.string "CushionCourt$Reader" 26) "java/lang/String" "value" "[B") (ty := .byte) (N := 95) (f := fun j => .int (Int32.ofInt (wd j))) (A := A) (by decide) (hs (Cond.arrayOf (.field (.string "CushionCourt$Reader" 26) "java/lang/String" "value" "[B") .byte) (by decide +kernel)) (va_eqt (hs (Cond.eq (.length (.field (.string "CushionCourt$Reader" 26) "java/lang/String" "value" "[B")) (.int 95)) (by decide +kernel))) (fun j hj => va_eqt (hs _ (hel j hj))) hA
  have w1 : Cond.stringRef "CushionCourt$Reader" 26 txW ∈ lw_tbl := List.mem_of_getElem? (i := 291) (by decide +kernel)
  have w2 : Cond.laysStatic "java/lang/String" "COMPACT_STRINGS" "Z" ∈ lw_tbl := List.mem_of_getElem? (i := 301) (by decide +kernel)
  have w3 : Cond.initialized "java/lang/String" ∈ lw_tbl := List.mem_of_getElem? (i := 117) (by decide +kernel)
  have w4 : Cond.laysStatic "jdk/internal/util/Preconditions" "SIOOBE_FORMATTER" "Ljava/util/function/BiFunction;" ∈ lw_tbl := List.mem_of_getElem? (i := 317) (by decide +kernel)
  have w5 : Cond.initialized "jdk/internal/util/Preconditions" ∈ lw_tbl := List.mem_of_getElem? (i := 119) (by decide +kernel)
  exact ⟨a, vk_R.of (hts _ w1) q1, ⟨cA, q3, q5, by rw [q6]; exact q2, hA a (Array.getElem?_eq_some_iff.mp q3).1⟩, vk_OFof q1 (va_eqt (hs (Cond.eq (.field (.string "CushionCourt$Reader" 26) "java/lang/String" "coder" "B") (.int 0)) (by decide +kernel))) hA, ⟨t, vk_OFof q1 ht hA, hT⟩, va_Zof (hts _ w2) (hts _ w3) (va_eqt (hs (Cond.eq (.static "java/lang/String" "COMPACT_STRINGS" "Z") (.int 1)) (by decide +kernel))) hA,
    va_Zqof (hts _ w4) (hts _ w5) (hs (Cond.isRef (.static "jdk/internal/util/Preconditions" "SIOOBE_FORMATTER" "Ljava/util/function/BiFunction;")) (by decide +kernel)) hA⟩
theorem txt_known {args : Array Value} {s : State} {i k : Nat} {tx : String} (hts : ∀ w ∈ lw_tbl, w.before args s = true) (h : (Jvm.Cond.and given_1 narrow_1).before args s = true) (hw : Cond.stringRef "CushionCourt" k tx ∈ lw_tbl) (hx : Cond.exactly (.string "CushionCourt" k) "java/lang/String" ∈ flatC (Jvm.Cond.and given_1 narrow_1)) : ∃ a : Nat, vk_R "CushionCourt" k tx a s := by
  obtain ⟨a, c, cA, kA, q1, q2, q3, q4, q5, q6, -⟩ := Cond.exactly_spec (args := args) (first := s) (o := none) (s := s) (idx := []) (t := .string "CushionCourt" k) (cls := "java/lang/String") (flat_of_before _ h _ hx)
  exact ⟨a, vk_R.of (hts _ hw) q1⟩
theorem ex_known {g : GD} {args : Array Value} {s : State} (hts : ∀ w ∈ lw_tbl, w.before args s = true) (h : (Jvm.Cond.and given_1 narrow_1).before args s = true) (hA : ∀ a : Nat, a < s.heap.size → ¬ gA g a) : ExcC g s := by
  have hs := flat_of_before _ h
  have w1 : Cond.stringRef "CushionCourt" 152 "no such case" ∈ lw_tbl := List.mem_of_getElem? (i := 1283) (by decide +kernel)
  have w2 : Cond.stringRef "CushionCourt" 177 "no such what" ∈ lw_tbl := List.mem_of_getElem? (i := 1318) (by decide +kernel)
  have w3 : Cond.laysStatic Bundle.tN "UNASSIGNED_STACK" Bundle.steD ∈ lw_tbl := List.mem_of_getElem? (i := 1270) (by decide +kernel)
  have w4 : Cond.laysStatic Bundle.tN "SUPPRESSED_SENTINEL" Bundle.listD ∈ lw_tbl := List.mem_of_getElem? (i := 1272) (by decide +kernel)
  have w6 : Cond.castable "java/lang/IndexOutOfBoundsException" "java/lang/IndexOutOfBoundsException" ∈ lw_tbl := List.mem_of_getElem? (i := 1245) (by decide +kernel)
  have w7 : Cond.castable "java/util/NoSuchElementException" "java/util/NoSuchElementException" ∈ lw_tbl := List.mem_of_getElem? (i := 1311) (by decide +kernel)
  have w8 : Cond.declares (Bundle.initS "java/lang/RuntimeException") ∈ lw_tbl := List.mem_of_getElem? (i := 1247) (by decide +kernel)
  have w9 : Cond.declares (Bundle.initS "java/lang/Exception") ∈ lw_tbl := List.mem_of_getElem? (i := 1249) (by decide +kernel)
  have w10 : Cond.declares (Bundle.initS Bundle.tN) ∈ lw_tbl := List.mem_of_getElem? (i := 1251) (by decide +kernel)
  have w5 : Cond.initialized Bundle.tN ∈ lw_tbl := List.mem_of_getElem? (i := 129) (by decide +kernel)
  exact ⟨txt_known (i := 0) hts h w1 (by decide +kernel), txt_known (i := 0) hts h w2 (by decide +kernel), vx_Zqof (hts _ w3) (hts _ w5) (hs (Cond.isRef (.static Bundle.tN "UNASSIGNED_STACK" Bundle.steD)) (by decide +kernel)) hA, vx_Zqof (hts _ w4) (hts _ w5) (hs (Cond.isRef (.static Bundle.tN "SUPPRESSED_SENTINEL" Bundle.listD)) (by decide +kernel)) hA, va_Nc.of (hs (Cond.not (.castable "java/util/NoSuchElementException" "java/lang/IndexOutOfBoundsException")) (by decide +kernel)), va_Nw.of rfl (hts _ w6), va_Nw.of rfl (hts _ w7), va_Nw.of rfl (hts _ w8), va_Nw.of rfl (hts _ w9), va_Nw.of rfl (hts _ w10)⟩
/-- the law's walk, out of what the pure law reaches -/
theorem start_open (hCau : CauseOK) {p : Program} {e : Env} {s : State} {m : MethodId} {below : List Frame} {meth : Method} {c : Code} (l : Launch) (hlt : l.stackTraces = false) {b N : Nat} {xs : Nat → Int32} (hN : N ≤ 3072) (C0 : lw_At p s m meth c b N xs)
    (hP : R 276 0 (pad 7 [some (vr 1)]) [] (sh0 N) 0 0 (mem0 xs N) (fun r _ _ => r = some (vi 1))) : W p l e room_1 s m #[Value.ref b] below meth c s.heap [] 0 0 (lw_Z below #[Value.ref b] s) (entryFrame m ([Value.ref b] : List Value).toArray 7) := by
  obtain ⟨hx, hb, hr, hml, hown, hts0, hX, hbl, hlocks, hgv⟩ := C0
  have hts : ∀ w ∈ GWl, w.before #[Value.ref b] s = true := fun w hw => hts0 w (List.mem_filter.mp hw).1
  obtain ⟨D, hD⟩ := cls_known hts
  obtain ⟨cI, i1, i2⟩ := arr_known (hts _ gw_aI)
  obtain ⟨cB, b1, b2⟩ := arr_known (hts _ gw_aB)
  obtain ⟨cZ, z1, z2⟩ := arr_known (hts _ gw_aZ)
  obtain ⟨cJ, j1, j2⟩ := arr_known (hts _ gw_aJ)
  have hA : ∀ a : Nat, a < s.heap.size → ¬ (fun q : Nat => s.heap.size ≤ q) a := fun a h q => by have q : s.heap.size ≤ a := q; omega
  obtain ⟨tP, p1, p2⟩ := pow_known (A := fun q : Nat => s.heap.size ≤ q) hts0 hgv hA
  obtain ⟨wW, hstr⟩ := str_known (A := fun q : Nat => s.heap.size ≤ q) hts0 hgv hA
  have hnest : Cond.methodLinkNest "CushionCourt$Reader" 194 yPlace "CushionCourt" ∈ lw_tbl := List.mem_of_getElem? (i := 667) (by decide +kernel)
  let g : GD := ((s.heap.size, tP, b, wW, N), xs, D, (cI, cB, cZ, cJ))
  have hctx : CtxS g s := ⟨Nat.le_refl _, ⟨hD, fun k q hq => by
    match k, hq with
    | 0, hq => cases hq; exact ⟨i1, i2⟩
    | 1, hq => cases hq; exact ⟨b1, b2⟩
    | 2, hq => cases hq; exact ⟨z1, z2⟩
    | 3, hq => cases hq; exact ⟨j1, j2⟩
    | k + 4, hq => cases hq⟩, p1, p2, hX, hbl, va_Nw.of rfl (hts0 _ hnest), hstr.1, hstr.2.1, hstr.2.2.1, hstr.2.2.2.1, hstr.2.2.2.2.1, hstr.2.2.2.2.2, ex_known (g := g) hts0 hgv hA⟩
  have key := bridge_open str_ok hCau hP
  rw [lg_entry_eq]
  refine key g p l e room_1 s m #[Value.ref b] below meth c (lw_Z below #[Value.ref b] s) true s.heap [] _ ⟨⟨hx, hb, hml, hown, hts, fun q => absurd q (by decide +kernel), hlocks, hr, ⟨rfl, hlt⟩, hctx⟩, ?_, ?_, ?_, fun v hv => absurd hv List.not_mem_nil, ⟨?_, ?_, ?_⟩, va_S.rf, Nat.zero_le _, Nat.zero_le _, fun _ => ⟨rfl, rfl⟩⟩
  · intro r sh σ H locs c' s' pc ls hq hw hS hro hsz hrn hri
    subst hq
    obtain ⟨hd, -⟩ := hri
    refine va_forget (fun q hq => hS.2.2 q hq) ?_
    refine W.widen (k := 1156) (n := 13874) hro.1 hro.2.1 ?_
    exact lw_ret hx hb hr hlocks hd
  · refine lv_weak (lv_entry [Value.ref b] (n := 7) (Nat.le_of_ble_eq_true rfl)) fun q hq => ?_
    obtain ⟨v, h1, h2⟩ := mem_asl.mp hq
    have := (lo_get (g := g) [vr 1] 0 (pad_get 7 (lo [vr 1]) h1)).2
    rw [Nat.zero_add, ← h2] at this
    exact this
  · intro v hv
    obtain ⟨i, hi⟩ := List.getElem?_of_mem hv
    have := (lo_get (g := g) [vr 1] 0 (pad_get 7 (lo [vr 1]) hi)).1
    rw [List.mem_singleton.mp this]
    trivial
  · intro k q hq
    cases hq
  · refine ⟨by show 3 ≤ 3; omega, ⟨_, rfl⟩, ⟨_, rfl⟩, ⟨_, rfl⟩, fun k ty n rs hk h => ?_, fun k ty n rs h => ?_, fun k ci rs h => ?_⟩
    · match k, hk, h with
      | k + 3, _, h => cases h
    · match k, h with
      | 0, h => cases h; omega
      | 1, h => cases h; show N < 2147483648; omega
      | 2, h => cases h; omega
      | k + 3, h => cases h
    · match k, h with
      | 0, h => cases h
      | 1, h => cases h
      | 2, h => cases h
      | k + 3, h => cases h
  · refine ⟨fun i _ => rfl, fun i hi => ?_, fun i _ => rfl, fun a b => ?_, fun a b => in64_0⟩
    · show Int32.ofInt (if i < N then (xs i).toInt else 0) = xs i
      have hi : i < N := hi
      rw [if_pos hi, Int32.ofInt_toInt]
    · match a with
      | 0 => exact pw_in b
      | 1 =>
        show in32 (if b < N then (xs b).toInt else 0)
        split
        · exact in32_toInt _
        · exact in32_0
      | 2 => exact wd_in b
      | a + 3 => exact in32_0
