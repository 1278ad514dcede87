/-! THE TEXT OF WORDS: String.length() and charAt(i) of it, by the JDK's own code -/
def yCoder : MethodName := ⟨"java/lang/String", "coder", "()B"⟩
def yLatin : MethodName := ⟨"java/lang/String", "isLatin1", "()Z"⟩
def yLen : MethodName := ⟨"java/lang/String", "length", "()I"⟩
def yChar : MethodName := ⟨"java/lang/String", "charAt", "(I)C"⟩
def yLchar : MethodName := ⟨"java/lang/StringLatin1", "charAt", "([BI)C"⟩
def yCheck : MethodName := ⟨"java/lang/String", "checkIndex", "(II)V"⟩
def yPcheck : MethodName := ⟨"jdk/internal/util/Preconditions", "checkIndex", "(IILjava/util/function/BiFunction;)I"⟩
abbrev cCoder : ByteArray := prog_21_method_152_code
abbrev cLatin : ByteArray := prog_21_method_154_code
abbrev cLen : ByteArray := prog_21_method_54_code
abbrev cChar : ByteArray := prog_21_method_56_code
abbrev cLchar : ByteArray := prog_22_method_2_code
abbrev cCheck : ByteArray := prog_21_method_155_code
abbrev cPcheck : ByteArray := prog_29_method_11_code
theorem w_f38 : Cond.fieldLink "java/lang/String" 38 "java/lang/String" "COMPACT_STRINGS" "Z" ∈ GWl := gwAt_mem (i := 300) (by decide +kernel)
theorem w_f15 : Cond.fieldLink "java/lang/String" 15 "java/lang/String" "coder" "B" ∈ GWl := gwAt_mem (i := 2088) (by decide +kernel)
theorem w_f9 : Cond.fieldLink "java/lang/String" 9 "java/lang/String" "value" "[B" ∈ GWl := gwAt_mem (i := 2087) (by decide +kernel)
theorem w_f1053 : Cond.fieldLink "java/lang/String" 1053 "jdk/internal/util/Preconditions" "SIOOBE_FORMATTER" "Ljava/util/function/BiFunction;" ∈ GWl := gwAt_mem (i := 316) (by decide +kernel)
theorem w_cCoder : Cond.code yCoder cCoder 1 (some .byte) ∈ GWl := gwAt_mem (i := 299) (by decide +kernel)
theorem w_mCoder : Cond.instanceMethod yCoder ∈ GWl := gwAt_mem (i := 297) (by decide +kernel)
theorem w_xCoder : Cond.selects "java/lang/String" yCoder yCoder ∈ GWl := gwAt_mem (i := 298) (by decide +kernel)
theorem w_cLatin : Cond.code yLatin cLatin 1 (some .boolean) ∈ GWl := gwAt_mem (i := 309) (by decide +kernel)
theorem w_mLatin : Cond.instanceMethod yLatin ∈ GWl := gwAt_mem (i := 307) (by decide +kernel)
theorem w_xLatin : Cond.selects "java/lang/String" yLatin yLatin ∈ GWl := gwAt_mem (i := 308) (by decide +kernel)
theorem w_cLen : Cond.code yLen cLen 1 (some .int) ∈ GWl := gwAt_mem (i := 295) (by decide +kernel)
theorem w_mLen : Cond.instanceMethod yLen ∈ GWl := gwAt_mem (i := 293) (by decide +kernel)
theorem w_xLen : Cond.selects "java/lang/String" yLen yLen ∈ GWl := gwAt_mem (i := 294) (by decide +kernel)
theorem w_cChar : Cond.code yChar cChar 2 (some .char) ∈ GWl := gwAt_mem (i := 305) (by decide +kernel)
theorem w_mChar : Cond.instanceMethod yChar ∈ GWl := gwAt_mem (i := 303) (by decide +kernel)
theorem w_xChar : Cond.selects "java/lang/String" yChar yChar ∈ GWl := gwAt_mem (i := 304) (by decide +kernel)
theorem w_cLchar : Cond.code yLchar cLchar 2 (some .char) ∈ GWl := gwAt_mem (i := 312) (by decide +kernel)
theorem w_sLchar : Cond.static yLchar ∈ GWl := gwAt_mem (i := 311) (by decide +kernel)
theorem w_cCheck : Cond.code yCheck cCheck 2 none ∈ GWl := gwAt_mem (i := 315) (by decide +kernel)
theorem w_sCheck : Cond.static yCheck ∈ GWl := gwAt_mem (i := 314) (by decide +kernel)
theorem w_cPcheck : Cond.code yPcheck cPcheck 3 (some .int) ∈ GWl := gwAt_mem (i := 320) (by decide +kernel)
theorem w_sPcheck : Cond.static yPcheck ∈ GWl := gwAt_mem (i := 319) (by decide +kernel)
theorem w_l335 : Cond.methodLink "java/lang/String" 335 yCoder ∈ GWl := gwAt_mem (i := 296) (by decide +kernel)
theorem w_l492 : Cond.methodLink "java/lang/String" 492 yLatin ∈ GWl := gwAt_mem (i := 306) (by decide +kernel)
theorem w_l495 : Cond.methodLink "java/lang/String" 495 yLchar ∈ GWl := gwAt_mem (i := 310) (by decide +kernel)
theorem w_l9 : Cond.methodLink "java/lang/StringLatin1" 9 yCheck ∈ GWl := gwAt_mem (i := 313) (by decide +kernel)
theorem w_l1059 : Cond.methodLink "java/lang/String" 1059 yPcheck ∈ GWl := gwAt_mem (i := 318) (by decide +kernel)
theorem w_l28 : Cond.methodLink "CushionCourt$Reader" 28 yLen ∈ GWl := gwAt_mem (i := 292) (by decide +kernel)
theorem w_l34 : Cond.methodLink "CushionCourt$Reader" 34 yChar ∈ GWl := gwAt_mem (i := 302) (by decide +kernel)
theorem w_iStr : Cond.initialized "java/lang/String" ∈ GWl := gwAt_mem (i := 117) (by decide +kernel)
theorem w_iLat : Cond.initialized "java/lang/StringLatin1" ∈ GWl := gwAt_mem (i := 118) (by decide +kernel)
theorem w_iPre : Cond.initialized "jdk/internal/util/Preconditions" ∈ GWl := gwAt_mem (i := 119) (by decide +kernel)
theorem d_coder_0 : decode cCoder 0 = .ok (.getstatic 38, 3) := by decide +kernel
theorem d_coder_3 : decode cCoder 3 = .ok (.ifCond .eq 10, 3) := by decide +kernel
theorem d_coder_6 : decode cCoder 6 = .ok (.aload_n 0, 1) := by decide +kernel
theorem d_coder_7 : decode cCoder 7 = .ok (.getfield 15, 3) := by decide +kernel
theorem d_coder_10 : decode cCoder 10 = .ok (.goto 4, 3) := by decide +kernel
theorem d_coder_14 : decode cCoder 14 = .ok (.ireturn, 1) := by decide +kernel
theorem d_latin_0 : decode cLatin 0 = .ok (.getstatic 38, 3) := by decide +kernel
theorem d_latin_3 : decode cLatin 3 = .ok (.ifCond .eq 14, 3) := by decide +kernel
theorem d_latin_6 : decode cLatin 6 = .ok (.aload_n 0, 1) := by decide +kernel
theorem d_latin_7 : decode cLatin 7 = .ok (.getfield 15, 3) := by decide +kernel
theorem d_latin_10 : decode cLatin 10 = .ok (.ifCond .ne 7, 3) := by decide +kernel
theorem d_latin_13 : decode cLatin 13 = .ok (.iconst 1, 1) := by decide +kernel
theorem d_latin_14 : decode cLatin 14 = .ok (.goto 4, 3) := by decide +kernel
theorem d_latin_18 : decode cLatin 18 = .ok (.ireturn, 1) := by decide +kernel
theorem d_pcheck_0 : decode cPcheck 0 = .ok (.iload_n 0, 1) := by decide +kernel
theorem d_pcheck_1 : decode cPcheck 1 = .ok (.ifCond .lt 8, 3) := by decide +kernel
theorem d_pcheck_4 : decode cPcheck 4 = .ok (.iload_n 0, 1) := by decide +kernel
theorem d_pcheck_5 : decode cPcheck 5 = .ok (.iload_n 1, 1) := by decide +kernel
theorem d_pcheck_6 : decode cPcheck 6 = .ok (.if_icmp .lt 10, 3) := by decide +kernel
theorem d_pcheck_16 : decode cPcheck 16 = .ok (.iload_n 0, 1) := by decide +kernel
theorem d_pcheck_17 : decode cPcheck 17 = .ok (.ireturn, 1) := by decide +kernel
theorem d_check_0 : decode cCheck 0 = .ok (.iload_n 0, 1) := by decide +kernel
theorem d_check_1 : decode cCheck 1 = .ok (.iload_n 1, 1) := by decide +kernel
theorem d_check_2 : decode cCheck 2 = .ok (.getstatic 1053, 3) := by decide +kernel
theorem d_check_5 : decode cCheck 5 = .ok (.invokestatic 1059, 3) := by decide +kernel
theorem d_check_8 : decode cCheck 8 = .ok (.pop, 1) := by decide +kernel
theorem d_check_9 : decode cCheck 9 = .ok (.return_, 1) := by decide +kernel
theorem d_lchar_0 : decode cLchar 0 = .ok (.iload_n 1, 1) := by decide +kernel
theorem d_lchar_1 : decode cLchar 1 = .ok (.aload_n 0, 1) := by decide +kernel
theorem d_lchar_2 : decode cLchar 2 = .ok (.arraylength, 1) := by decide +kernel
theorem d_lchar_3 : decode cLchar 3 = .ok (.invokestatic 9, 3) := by decide +kernel
theorem d_lchar_6 : decode cLchar 6 = .ok (.aload_n 0, 1) := by decide +kernel
theorem d_lchar_7 : decode cLchar 7 = .ok (.iload_n 1, 1) := by decide +kernel
theorem d_lchar_8 : decode cLchar 8 = .ok (.baload, 1) := by decide +kernel
theorem d_lchar_9 : decode cLchar 9 = .ok (.sipush 255, 3) := by decide +kernel
theorem d_lchar_12 : decode cLchar 12 = .ok (.iand, 1) := by decide +kernel
theorem d_lchar_13 : decode cLchar 13 = .ok (.i2c, 1) := by decide +kernel
theorem d_lchar_14 : decode cLchar 14 = .ok (.ireturn, 1) := by decide +kernel
theorem d_char_0 : decode cChar 0 = .ok (.aload_n 0, 1) := by decide +kernel
theorem d_char_1 : decode cChar 1 = .ok (.invokevirtual 492, 3) := by decide +kernel
theorem d_char_4 : decode cChar 4 = .ok (.ifCond .eq 12, 3) := by decide +kernel
theorem d_char_7 : decode cChar 7 = .ok (.aload_n 0, 1) := by decide +kernel
theorem d_char_8 : decode cChar 8 = .ok (.getfield 9, 3) := by decide +kernel
theorem d_char_11 : decode cChar 11 = .ok (.iload_n 1, 1) := by decide +kernel
theorem d_char_12 : decode cChar 12 = .ok (.invokestatic 495, 3) := by decide +kernel
theorem d_char_15 : decode cChar 15 = .ok (.ireturn, 1) := by decide +kernel
theorem d_len_0 : decode cLen 0 = .ok (.aload_n 0, 1) := by decide +kernel
theorem d_len_1 : decode cLen 1 = .ok (.getfield 9, 3) := by decide +kernel
theorem d_len_4 : decode cLen 4 = .ok (.arraylength, 1) := by decide +kernel
theorem d_len_5 : decode cLen 5 = .ok (.aload_n 0, 1) := by decide +kernel
theorem d_len_6 : decode cLen 6 = .ok (.invokevirtual 335, 3) := by decide +kernel
theorem d_len_9 : decode cLen 9 = .ok (.ishr, 1) := by decide +kernel
theorem d_len_10 : decode cLen 10 = .ok (.ireturn, 1) := by decide +kernel
def wJ (y : MethodName) (cc : ByteArray) (n : Nat) (r : Option FieldType) : List Cond := .code y cc n r :: GWl
theorem wJ_in {y : MethodName} {cc : ByteArray} {n : Nat} {r : Option FieldType} (h : Cond.code y cc n r ∈ GWl) : ∀ w ∈ wJ y cc n r, w ∈ GWl := fun w hw => by
  rcases List.mem_cons.mp hw with rfl | h2
  · exact h
  · exact h2
def PreJ (g : GD) (sh : Sh) (σ : Mm) (av : List Value) : Array Value → State → Prop := va_Pc av (fun U => CtxS g U ∧ World g sh σ U.heap ∧ (isOpen sh = true → U.heap.size = gBase g + (sh.length - 3)))
theorem preJ_blind {g : GD} {sh : Sh} {σ : Mm} {av : List Value} : FrameBlind (PreJ g sh σ av) := by
  intro a U f mk q
  obtain ⟨q1, q2, q3, q4⟩ := q
  exact ⟨q1, q2.blind f mk a, q3, q4⟩
def rmJ (fr lo : Nat) : Room := { frames := fr, cells := 0, slots := 0, locals := lo }
def ansJ (sh : Sh) (σ : Mm) (v : Option PV) : PQ := fun r sh' σ' => r = v ∧ sh' = sh ∧ σ' = σ
section STRJ
variable {g : GD} {sh : Sh} {σ : Mm} {l : Launch}
/-- the end of such a method: nothing has changed -/
theorem endJ {s t : State} {v : Option PV} (hc : CtxS g s) (hw : World g sh σ s.heap) (ho : isOpen sh = true → s.heap.size = gBase g + (sh.length - 3)) (hr : ∀ u, v = some u → rngV u) (ht : t.heap = s.heap) {a : Array Value} : PostK g 1008 sh (ansJ sh σ v) a s (.returned (v.map (mkV g))) t :=
  ⟨⟨v, sh, σ, rfl, ⟨rfl, rfl, rfl⟩, hr, by rw [ht]; exact hw, fun q => ⟨ho q, q⟩⟩, by rw [ht]; exact Nat.le_refl _, fun q _ _ => by rw [ht]⟩
theorem met_coder : Met l yCoder (wJ yCoder cCoder 1 (some .byte)) (rmJ 0 0) (PreJ g sh σ [.ref (gWo g)]) (PostK g 1008 sh (ansJ sh σ (some (vi 0)))) 0 0 (gA g) := by
  refine va_MetF (cc := cCoder) (maxL := 1) (ret := some .byte) (by decide +kernel) rfl ?_
  intro p e s m args below meth c s₁ B hml hv
  obtain ⟨rfl, hctx, hw, ho⟩ := hv
  have hts : ∀ w ∈ GWl, w.before _ s = true := fun w hw => atoms_spec (ws := wJ yCoder cCoder 1 (some .byte)) B.pre w (List.mem_cons_of_mem _ hw)
  have hown : s.vm.findClass "java/lang/String" = some m.cls := findClass_of_methodNamed B.named
  have hx := B.exec
  have hb := B.bytes
  have hlocks := B.notSynchronized
  obtain ⟨k1, k2, k3, ⟨aV, k4, k5⟩, k6, k7, -⟩ := hctx.2.2.2.2.2.2.2
  have hS : va_S (gA g) s.heap s.heap [] := va_S.rf
  have hl := lv_entry ([.ref (gWo g)]) (n := 1) (Nat.le_of_ble_eq_true rfl)
  rw [lg_entry_eq]
  generalize (lg_sl ([.ref (gWo g)]) ++ List.replicate (1 - (lg_sl ([Value.ref (gWo g)])).length) Slot.unset).toArray = ls at hl ⊢
  have hl : lv_has ls 1 [(0, .ref (gWo g))] := hl
  refine va_gets hx hb k6 hS hown (hts _ w_f38) (fun _ q => q) d_coder_0 ?_
  refine lv_if_eq (tgt := 13) hx hb d_coder_3 (by decide) (fun q => absurd q (by decide)) (fun _ => ?_)
  refine lv_aload_n hx hb d_coder_6 rfl (lv_at hl 0 rfl) ?_
  refine vk_getf hx hb k3 hS hown (hts _ w_f15) (fun _ q => q) d_coder_7 ?_
  refine lv_goto (tgt := 14) hx hb d_coder_10 (by decide) ?_
  exact W.zret (v := 0) (ty := .byte) hx hb B.returns rfl (fun t ht _ => endJ hctx hw ho (fun u hu => by cases hu; exact in32_0) ht) (fun q hq => by cases hq) d_coder_14
theorem met_latin : Met l yLatin (wJ yLatin cLatin 1 (some .boolean)) (rmJ 0 0) (PreJ g sh σ [.ref (gWo g)]) (PostK g 1008 sh (ansJ sh σ (some (vi 1)))) 0 0 (gA g) := by
  refine va_MetF (cc := cLatin) (maxL := 1) (ret := some .boolean) (by decide +kernel) rfl ?_
  intro p e s m args below meth c s₁ B hml hv
  obtain ⟨rfl, hctx, hw, ho⟩ := hv
  have hts : ∀ w ∈ GWl, w.before _ s = true := fun w hw => atoms_spec (ws := wJ yLatin cLatin 1 (some .boolean)) B.pre w (List.mem_cons_of_mem _ hw)
  have hown : s.vm.findClass "java/lang/String" = some m.cls := findClass_of_methodNamed B.named
  have hx := B.exec
  have hb := B.bytes
  have hlocks := B.notSynchronized
  obtain ⟨k1, k2, k3, ⟨aV, k4, k5⟩, k6, k7, -⟩ := hctx.2.2.2.2.2.2.2
  have hS : va_S (gA g) s.heap s.heap [] := va_S.rf
  have hl := lv_entry ([.ref (gWo g)]) (n := 1) (Nat.le_of_ble_eq_true rfl)
  rw [lg_entry_eq]
  generalize (lg_sl ([.ref (gWo g)]) ++ List.replicate (1 - (lg_sl ([Value.ref (gWo g)])).length) Slot.unset).toArray = ls at hl ⊢
  have hl : lv_has ls 1 [(0, .ref (gWo g))] := hl
  refine va_gets hx hb k6 hS hown (hts _ w_f38) (fun _ q => q) d_latin_0 ?_
  refine lv_if_eq (tgt := 17) hx hb d_latin_3 (by decide) (fun q => absurd q (by decide)) (fun _ => ?_)
  refine lv_aload_n hx hb d_latin_6 rfl (lv_at hl 0 rfl) ?_
  refine vk_getf hx hb k3 hS hown (hts _ w_f15) (fun _ q => q) d_latin_7 ?_
  refine lv_if_ne (tgt := 17) hx hb d_latin_10 (by decide) (fun q => absurd rfl q) (fun _ => ?_)
  refine lv_iconst (v := 1) hx hb d_latin_13 (by decide) ?_
  refine lv_goto (tgt := 18) hx hb d_latin_14 (by decide) ?_
  exact W.zret (v := 1) (ty := .boolean) hx hb B.returns rfl (fun t ht _ => endJ (v := some (vi 1)) hctx hw ho (fun u hu => by cases hu; exact And.intro (by decide) (by decide)) ht) (fun q hq => by cases hq) d_latin_18
theorem met_pcheck {a : Value} (ha : a = .null ∨ ∃ q, a = .ref q) {i : Int} (hi : 0 ≤ i ∧ i < 95) : Met l yPcheck (wJ yPcheck cPcheck 3 (some .int)) (rmJ 0 0) (PreJ g sh σ [.int (Int32.ofInt i), .int 95, a]) (PostK g 1008 sh (ansJ sh σ (some (vi i)))) 0 0 (gA g) := by
  refine va_MetF (cc := cPcheck) (maxL := 3) (ret := some .int) (by decide +kernel) rfl ?_
  intro p e s m args below meth c s₁ B hml hv
  obtain ⟨rfl, hctx, hw, ho⟩ := hv
  have hx := B.exec
  have hb := B.bytes
  have hlocks := B.notSynchronized
  have ri : in32 i := by unfold in32; omega
  have hlen : (lg_sl ([.int (Int32.ofInt i), .int 95, a])).length ≤ 3 := by rcases ha with rfl | ⟨q, rfl⟩ <;> exact Nat.le_of_ble_eq_true rfl
  have hl := lv_entry ([.int (Int32.ofInt i), .int 95, a]) (n := 3) hlen
  rw [lg_entry_eq]
  generalize (lg_sl ([.int (Int32.ofInt i), .int 95, a]) ++ List.replicate (3 - (lg_sl ([.int (Int32.ofInt i), .int 95, a])).length) Slot.unset).toArray = ls at hl ⊢
  have hl : lv_has ls 3 [(0, .int (Int32.ofInt i)), (1, .int 95)] := lv_weak hl (fun q hq => by
    simp only [List.mem_cons, List.not_mem_nil, or_false] at hq
    rcases hq with rfl | rfl
    · exact List.mem_cons_self
    · exact List.mem_cons_of_mem _ List.mem_cons_self)
  refine lv_iload_n hx hb d_pcheck_0 rfl (lv_at hl 0 rfl) ?_
  refine lv_if_lt (tgt := 9) hx hb d_pcheck_1 (by decide) (fun q => by have := (n_lt ri in32_0).mp q; omega) (fun _ => ?_)
  refine lv_iload_n hx hb d_pcheck_4 rfl (lv_at hl 0 rfl) ?_
  refine lv_iload_n hx hb d_pcheck_5 rfl (lv_at hl 1 rfl) ?_
  refine lv_icmp_lt (tgt := 16) hx hb d_pcheck_6 (by decide) (fun _ => ?_) (fun q => absurd ((n_lt (b := 95) ri (And.intro (by decide) (by decide))).mpr (by omega)) q)
  refine lv_iload_n hx hb d_pcheck_16 rfl (lv_at hl 0 rfl) ?_
  exact W.iret (v := Int32.ofInt i) hx hb B.returns (fun t ht _ => endJ (v := some (vi i)) hctx hw ho (fun u hu => by cases hu; exact ri) ht) (fun q hq => by cases hq) d_pcheck_17
theorem met_check {i : Int} (hi : 0 ≤ i ∧ i < 95) : Met l yCheck (wJ yCheck cCheck 2 none) (rmJ 1 22) (PreJ g sh σ [.int (Int32.ofInt i), .int 95]) (PostK g 1008 sh (ansJ sh σ none)) 0 0 (gA g) := by
  refine va_MetF (cc := cCheck) (maxL := 2) (ret := none) (by decide +kernel) rfl ?_
  intro p e s m args below meth c s₁ B hml hv
  obtain ⟨rfl, hctx, hw, ho⟩ := hv
  have hts : ∀ w ∈ GWl, w.before _ s = true := fun w hw => atoms_spec (ws := wJ yCheck cCheck 2 none) B.pre w (List.mem_cons_of_mem _ hw)
  have hown : s.vm.findClass "java/lang/String" = some m.cls := findClass_of_methodNamed B.named
  have hx := B.exec
  have hb := B.bytes
  have hlocks := B.notSynchronized
  obtain ⟨k1, k2, k3, ⟨aV, k4, k5⟩, k6, k7, -⟩ := hctx.2.2.2.2.2.2.2
  have hS : va_S (gA g) s.heap s.heap [] := va_S.rf
  have hl := lv_entry ([.int (Int32.ofInt i), .int 95]) (n := 2) (Nat.le_of_ble_eq_true rfl)
  rw [lg_entry_eq]
  generalize (lg_sl ([.int (Int32.ofInt i), .int 95]) ++ List.replicate (2 - (lg_sl ([Value.int (Int32.ofInt i), .int 95])).length) Slot.unset).toArray = ls at hl ⊢
  have hl : lv_has ls 2 [(0, .int (Int32.ofInt i)), (1, .int 95)] := hl
  refine lv_iload_n hx hb d_check_0 rfl (lv_at hl 0 rfl) ?_
  refine lv_iload_n hx hb d_check_1 rfl (lv_at hl 1 rfl) ?_
  have go : ∀ a : Value, (a = .null ∨ ∃ q, a = .ref q) → W p l e (headSpec (wJ yCheck cCheck 2 none) (rmJ 1 22)).room s m #[Value.int (Int32.ofInt i), Value.int 95] below meth c s.heap [] 0 0 (MQ below (PostK g 1008 sh (ansJ sh σ none)) #[Value.int (Int32.ofInt i), Value.int 95] s 0 0 (gA g)) (F0 m 5 ls [a, .int 95, .int (Int32.ofInt i)]) := by
    intro a ha
    refine call_go (k := 1008) (g := g) (sh := sh) (rest := []) (va_runS (Ts := GWl) (As := [.int (Int32.ofInt i), .int 95, a]) ⟨hx, hb, hml, hown, hts⟩ (met_pcheck (g := g) (sh := sh) (σ := σ) ha hi) (va_cwS 3 hts (good_GW (fun w hw => by
        rcases List.mem_append.mp hw with hw | hw
        · simp only [List.mem_cons, List.not_mem_nil, or_false] at hw
          rcases hw with rfl | rfl | rfl
          · exact w_l1059
          · exact w_sPcheck
          · exact w_iPre
        · exact wJ_in w_cPcheck w hw)) rfl rfl rfl ⟨by decide, by decide, by decide +kernel⟩ ⟨Nat.le_of_ble_eq_true rfl, Nat.le_of_ble_eq_true rfl⟩) ⟨preJ_blind, fun U hU hW => ⟨rfl, hctx.go hS hU hW, by rw [hU]; exact hw, fun q => by rw [hU]; exact ho q⟩⟩ rfl rfl hl.1 rfl (lv_room (Nat.le_of_ble_eq_true rfl)) d_check_5 ⟨Nat.zero_le _, Nat.zero_le _⟩) hS (fun r sh' σ' H1 locs1 q1 q2 q3 q4 q5 => ?_)
    obtain ⟨rfl, rfl, rfl⟩ := q1
    refine lv_pop hx hb d_check_8 rfl ?_
    exact W.vret hx hb B.returns (fun t ht _ => ⟨⟨none, sh', σ', rfl, ⟨rfl, rfl, rfl⟩, (fun u hu => by cases hu), by rw [ht]; exact q3, fun q => q5 q⟩, q4.F ht⟩) q4.2.2 d_check_9
  rcases k7 with z | ⟨t, z⟩
  · exact va_gets hx hb z hS hown (hts _ w_f1053) (fun _ q => q) d_check_2 (go .null (Or.inl rfl))
  · exact va_gets hx hb z hS hown (hts _ w_f1053) (fun _ q => q) d_check_2 (go (.ref t) (Or.inr ⟨t, rfl⟩))
theorem wd_small : ∀ i, i < 95 → 0 ≤ wd i ∧ wd i < 128 := by decide +kernel
theorem i2c_small : ∀ i, i < 95 → (((Int32.ofInt (wd i)) &&& 255).toUInt32 % 65536).toInt32 = Int32.ofInt (wd i) ∧ narrow .char (.int (Int32.ofInt (wd i))) = .int (Int32.ofInt (wd i)) := by decide +kernel
theorem met_lchar {aV : Nat} {i : Int} (hi : 0 ≤ i ∧ i < 95) : Met l yLchar (wJ yLchar cLchar 2 (some .char)) (rmJ 2 43) (fun a U => PreJ g sh σ [.ref aV, .int (Int32.ofInt i)] a U ∧ va_T .byte aV 95 (fun j => .int (Int32.ofInt (wd j))) (gA g) U U.heap) (PostK g 1008 sh (ansJ sh σ (some (vi (wd i.toNat))))) 0 0 (gA g) := by
  refine va_MetF (cc := cLchar) (maxL := 2) (ret := some .char) (by decide +kernel) rfl ?_
  intro p e s m args below meth c s₁ B hml hv
  obtain ⟨⟨rfl, hctx, hw, ho⟩, k5⟩ := hv
  have hts : ∀ w ∈ GWl, w.before _ s = true := fun w hw => atoms_spec (ws := wJ yLchar cLchar 2 (some .char)) B.pre w (List.mem_cons_of_mem _ hw)
  have hown : s.vm.findClass "java/lang/StringLatin1" = some m.cls := findClass_of_methodNamed B.named
  have hx := B.exec
  have hb := B.bytes
  have hlocks := B.notSynchronized
  have ri : in32 i := by unfold in32; omega
  have hS : va_S (gA g) s.heap s.heap [] := va_S.rf
  have hl := lv_entry ([.ref aV, .int (Int32.ofInt i)]) (n := 2) (Nat.le_of_ble_eq_true rfl)
  rw [lg_entry_eq]
  generalize (lg_sl ([.ref aV, .int (Int32.ofInt i)]) ++ List.replicate (2 - (lg_sl ([Value.ref aV, .int (Int32.ofInt i)])).length) Slot.unset).toArray = ls at hl ⊢
  have hl : lv_has ls 2 [(0, .ref aV), (1, .int (Int32.ofInt i))] := hl
  refine lv_iload_n hx hb d_lchar_0 rfl (lv_at hl 1 rfl) ?_
  refine lv_aload_n hx hb d_lchar_1 rfl (lv_at hl 0 rfl) ?_
  refine va_tlen hx hb k5 hS (v := 95) rfl d_lchar_2 ?_
  refine call_go (k := 1008) (g := g) (sh := sh) (rest := []) (va_runS (Ts := GWl) (As := [.int (Int32.ofInt i), .int 95]) ⟨hx, hb, hml, hown, hts⟩ (met_check (g := g) (sh := sh) (σ := σ) hi) (va_cwS 2 hts (good_GW (fun w hw => by
      rcases List.mem_append.mp hw with hw | hw
      · simp only [List.mem_cons, List.not_mem_nil, or_false] at hw
        rcases hw with rfl | rfl | rfl
        · exact w_l9
        · exact w_sCheck
        · exact w_iStr
      · exact wJ_in w_cCheck w hw)) rfl rfl rfl ⟨by decide, by decide, by decide +kernel⟩ ⟨Nat.le_of_ble_eq_true rfl, Nat.le_of_ble_eq_true rfl⟩) ⟨preJ_blind, fun U hU hW => ⟨rfl, hctx.go hS hU hW, by rw [hU]; exact hw, fun q => by rw [hU]; exact ho q⟩⟩ rfl rfl hl.1 rfl (lv_room (Nat.le_of_ble_eq_true rfl)) d_lchar_3 ⟨Nat.zero_le _, Nat.zero_le _⟩) hS (fun r sh' σ' H1 locs1 q1 q2 q3 q4 q5 => ?_)
  obtain ⟨rfl, rfl, rfl⟩ := q1
  refine lv_aload_n hx hb d_lchar_6 rfl (lv_at hl 0 rfl) ?_
  refine lv_iload_n hx hb d_lchar_7 rfl (lv_at hl 1 rfl) ?_
  refine va_tb hx hb k5 q4 (n_in ri hi) (v := .int (Int32.ofInt (wd i.toNat))) (by rw [n_cl ri]) d_lchar_8 ?_
  refine lv_sipush (v := 255) hx hb d_lchar_9 (by decide) ?_
  refine lv_iand hx hb d_lchar_12 ?_
  obtain ⟨z1, z2⟩ := i2c_small i.toNat (by omega)
  refine lv_i2c (v := Int32.ofInt (wd i.toNat)) hx hb d_lchar_13 z1 ?_
  have hwd := wd_small i.toNat (by omega)
  exact W.zret (v := Int32.ofInt (wd i.toNat)) (ty := .char) hx hb B.returns z2 (fun t ht _ => ⟨⟨some (vi (wd i.toNat)), sh', σ', rfl, ⟨rfl, rfl, rfl⟩, (fun u hu => by cases hu; show in32 _; unfold in32; omega), by rw [ht]; exact q3, fun q => q5 q⟩, q4.F ht⟩) q4.2.2 d_lchar_14
theorem met_char {i : Int} (hi : 0 ≤ i ∧ i < 95) : Met l yChar (wJ yChar cChar 2 (some .char)) (rmJ 3 64) (PreJ g sh σ [.ref (gWo g), .int (Int32.ofInt i)]) (PostK g 1008 sh (ansJ sh σ (some (vi (wd i.toNat))))) 0 0 (gA g) := by
  refine va_MetF (cc := cChar) (maxL := 2) (ret := some .char) (by decide +kernel) rfl ?_
  intro p e s m args below meth c s₁ B hml hv
  obtain ⟨rfl, hctx, hw, ho⟩ := hv
  have hts : ∀ w ∈ GWl, w.before _ s = true := fun w hw => atoms_spec (ws := wJ yChar cChar 2 (some .char)) B.pre w (List.mem_cons_of_mem _ hw)
  have hown : s.vm.findClass "java/lang/String" = some m.cls := findClass_of_methodNamed B.named
  have hx := B.exec
  have hb := B.bytes
  have hlocks := B.notSynchronized
  obtain ⟨k1, k2, k3, ⟨aV, k4, k5⟩, k6, k7, -⟩ := hctx.2.2.2.2.2.2.2
  have hS : va_S (gA g) s.heap s.heap [] := va_S.rf
  have hl := lv_entry ([.ref (gWo g), .int (Int32.ofInt i)]) (n := 2) (Nat.le_of_ble_eq_true rfl)
  rw [lg_entry_eq]
  generalize (lg_sl ([.ref (gWo g), .int (Int32.ofInt i)]) ++ List.replicate (2 - (lg_sl ([Value.ref (gWo g), .int (Int32.ofInt i)])).length) Slot.unset).toArray = ls at hl ⊢
  have hl : lv_has ls 2 [(0, .ref (gWo g)), (1, .int (Int32.ofInt i))] := hl
  refine lv_aload_n hx hb d_char_0 rfl (lv_at hl 0 rfl) ?_
  have hrv : ∃ cell : Cell, s.heap[gWo g]? = some cell ∧ cell.vm.isStatics = false ∧ s.vm.findClass "java/lang/String" = some cell.cls := by
    obtain ⟨cell, h1, h2, h3, -⟩ := k2
    exact ⟨cell, h1, h2, h3⟩
  refine call_go (k := 1008) (g := g) (sh := sh) (rest := []) (va_runV (Ts := GWl) (C := "java/lang/String") (As := []) (b := gWo g) ⟨hx, hb, hml, hown, hts⟩ (met_latin (g := g) (sh := sh) (σ := σ)) (cwV 0 hts (good_GW (fun w hw => by
      rcases List.mem_append.mp hw with hw | hw
      · simp only [List.mem_cons, List.not_mem_nil, or_false] at hw
        rcases hw with rfl | rfl | rfl | rfl
        · exact w_l492
        · exact w_mLatin
        · exact w_xLatin
        · exact w_iStr
      · exact wJ_in w_cLatin w hw)) rfl rfl rfl ⟨rfl, by decide, by decide, by decide +kernel⟩ ⟨Nat.le_of_ble_eq_true rfl, Nat.le_of_ble_eq_true rfl⟩) ⟨preJ_blind, hrv, fun U hU hW => ⟨rfl, hctx.go hS hU hW, by rw [hU]; exact hw, fun q => by rw [hU]; exact ho q⟩⟩ rfl rfl hl.1 rfl (lv_room (Nat.le_of_ble_eq_true rfl)) d_char_1 ⟨Nat.zero_le _, Nat.zero_le _⟩) hS (fun r sh' σ' H1 locs1 q1 q2 q3 q4 q5 => ?_)
  obtain ⟨rfl, rfl, rfl⟩ := q1
  refine W_size fun hz0 => ?_
  refine lv_if_eq (x := 1) (tgt := 16) hx hb d_char_4 (by decide) (fun q => absurd q (by decide)) (fun _ => ?_)
  refine lv_aload_n hx hb d_char_7 rfl (lv_at hl 0 rfl) ?_
  refine vk_getf hx hb k4 q4 hown (hts _ w_f9) (fun _ q => q) d_char_8 ?_
  refine lv_iload_n hx hb d_char_11 rfl (lv_at hl 1 rfl) ?_
  refine call_go (k := 1008) (g := g) (sh := sh') (rest := []) (va_runS (Ts := GWl) (As := [.ref aV, .int (Int32.ofInt i)]) ⟨hx, hb, hml, hown, hts⟩ (met_lchar (g := g) (sh := sh') (σ := σ') (aV := aV) hi) (va_cwS 2 hts (good_GW (fun w hw => by
      rcases List.mem_append.mp hw with hw | hw
      · simp only [List.mem_cons, List.not_mem_nil, or_false] at hw
        rcases hw with rfl | rfl | rfl
        · exact w_l495
        · exact w_sLchar
        · exact w_iLat
      · exact wJ_in w_cLchar w hw)) rfl rfl rfl ⟨by decide, by decide, by decide +kernel⟩ ⟨Nat.le_of_ble_eq_true rfl, Nat.le_of_ble_eq_true rfl⟩) ⟨fun a U f mk q => ⟨preJ_blind a U f mk q.1, va_T.moved (u := U) (U := U.calling f mk a) (Vm.Alike.refl U.vm) q.2⟩, fun U hU hW => ⟨⟨rfl, hctx.go q4 hU hW, by rw [hU]; exact q3, fun q => by rw [hU]; have z := (q5 q).1; have h1 := q4.1; have h3 : mcN 1008 = 0 := rfl; omega⟩, (k5.kept (H1 := U.heap) (fun a ha hn => by rw [hU]; exact q4.2.1 a ha hn)).moved hW.alike⟩⟩ rfl rfl hl.1 rfl (lv_room (Nat.le_of_ble_eq_true rfl)) d_char_12 ⟨Nat.zero_le _, Nat.zero_le _⟩) q4 (fun r sh2 σ2 H2 locs2 p1 p2 p3 p4 p5 => ?_)
  obtain ⟨rfl, rfl, rfl⟩ := p1
  have hwd := wd_small i.toNat (by omega)
  obtain ⟨-, z2⟩ := i2c_small i.toNat (by omega)
  exact W.zret (v := Int32.ofInt (wd i.toNat)) (ty := .char) hx hb B.returns z2 (fun t ht _ => ⟨⟨some (vi (wd i.toNat)), sh2, σ2, rfl, ⟨rfl, rfl, rfl⟩, (fun u hu => by cases hu; show in32 _; unfold in32; omega), by rw [ht]; exact p3, fun q => q5 q⟩, p4.F ht⟩) p4.2.2 d_char_15
theorem met_len : Met l yLen (wJ yLen cLen 1 (some .int)) (rmJ 1 20) (PreJ g sh σ [.ref (gWo g)]) (PostK g 1008 sh (ansJ sh σ (some (vi 95)))) 0 0 (gA g) := by
  refine va_MetF (cc := cLen) (maxL := 1) (ret := some .int) (by decide +kernel) rfl ?_
  intro p e s m args below meth c s₁ B hml hv
  obtain ⟨rfl, hctx, hw, ho⟩ := hv
  have hts : ∀ w ∈ GWl, w.before _ s = true := fun w hw => atoms_spec (ws := wJ yLen cLen 1 (some .int)) B.pre w (List.mem_cons_of_mem _ hw)
  have hown : s.vm.findClass "java/lang/String" = some m.cls := findClass_of_methodNamed B.named
  have hx := B.exec
  have hb := B.bytes
  have hlocks := B.notSynchronized
  obtain ⟨k1, k2, k3, ⟨aV, k4, k5⟩, k6, k7, -⟩ := hctx.2.2.2.2.2.2.2
  have hS : va_S (gA g) s.heap s.heap [] := va_S.rf
  have hl := lv_entry ([.ref (gWo g)]) (n := 1) (Nat.le_of_ble_eq_true rfl)
  rw [lg_entry_eq]
  generalize (lg_sl ([.ref (gWo g)]) ++ List.replicate (1 - (lg_sl ([Value.ref (gWo g)])).length) Slot.unset).toArray = ls at hl ⊢
  have hl : lv_has ls 1 [(0, .ref (gWo g))] := hl
  refine lv_aload_n hx hb d_len_0 rfl (lv_at hl 0 rfl) ?_
  refine vk_getf hx hb k4 hS hown (hts _ w_f9) (fun _ q => q) d_len_1 ?_
  refine va_tlen hx hb k5 hS (v := 95) rfl d_len_4 ?_
  refine lv_aload_n hx hb d_len_5 rfl (lv_at hl 0 rfl) ?_
  have hrv : ∃ cell : Cell, s.heap[gWo g]? = some cell ∧ cell.vm.isStatics = false ∧ s.vm.findClass "java/lang/String" = some cell.cls := by
    obtain ⟨cell, h1, h2, h3, -⟩ := k2
    exact ⟨cell, h1, h2, h3⟩
  refine call_go (k := 1008) (g := g) (sh := sh) (rest := [.int 95]) (va_runV (Ts := GWl) (C := "java/lang/String") (As := []) (b := gWo g) ⟨hx, hb, hml, hown, hts⟩ (met_coder (g := g) (sh := sh) (σ := σ)) (cwV 0 hts (good_GW (fun w hw => by
      rcases List.mem_append.mp hw with hw | hw
      · simp only [List.mem_cons, List.not_mem_nil, or_false] at hw
        rcases hw with rfl | rfl | rfl | rfl
        · exact w_l335
        · exact w_mCoder
        · exact w_xCoder
        · exact w_iStr
      · exact wJ_in w_cCoder w hw)) rfl rfl rfl ⟨rfl, by decide, by decide, by decide +kernel⟩ ⟨Nat.le_of_ble_eq_true rfl, Nat.le_of_ble_eq_true rfl⟩) ⟨preJ_blind, hrv, fun U hU hW => ⟨rfl, hctx.go hS hU hW, by rw [hU]; exact hw, fun q => by rw [hU]; exact ho q⟩⟩ rfl rfl hl.1 rfl (lv_room (Nat.le_of_ble_eq_true rfl)) d_len_6 ⟨Nat.zero_le _, Nat.zero_le _⟩) hS (fun r sh' σ' H1 locs1 q1 q2 q3 q4 q5 => ?_)
  obtain ⟨rfl, rfl, rfl⟩ := q1
  refine lv_ishr (x := 95) (y := 0) hx hb d_len_9 ?_
  exact W.iret (v := 95) hx hb B.returns (fun t ht _ => ⟨⟨some (vi 95), sh', σ', rfl, ⟨rfl, rfl, rfl⟩, (fun u hu => by cases hu; exact And.intro (by decide) (by decide)), by rw [ht]; exact q3, fun q => q5 q⟩, q4.F ht⟩) q4.2.2 d_len_10
end STRJ
/-- the text of words: sound -/
theorem str_ok : StrOK := by
  intro j pc L S sh c s σ Q ins hins hcase h g p l e Rm s₀ m args below meth cd Z op H locs ls A
  obtain ⟨hj, hc, hd⟩ := code_ok hins
  have hr := A.room
  have wo := A.2.2.2.2.2.1
  have hctx := A.1.2.2.2.2.2.2.2.2.2
  have hS := A.2.2.2.2.2.2.1
  obtain ⟨k1, k2, k3, ⟨aV, k4, k5⟩, k6, k7, -⟩ := hctx.2.2.2.2.2.2.2
  rcases hcase with ⟨rfl, ho⟩ | ⟨i, rfl, hp⟩
  · have hown : s₀.vm.findClass "CushionCourt$Reader" = some m.cls := by have := A.1.2.2.2.1; rw [ho] at this; exact this
    have hz : poolAt t_const (ownN j) 26 = none := by rw [ho]; rfl
    simp only [wpI, hz] at h
    rw [ho] at h
    exact va_ldcS A.1.1 A.1.2.1 hown k1 (dec_ok hd rfl (by decide)) (h _ _ _ _ _ _ _ _ _ _ _ _ _ _ _ _ (A.stk (rc trivial A.rS)))
  · have hdg := dec_ok hd rfl (n := 3) (by decide)
    have hrv : ∃ cell : Cell, H[gWo g]? = some cell ∧ cell.vm.isStatics = false ∧ s₀.vm.findClass "java/lang/String" = some cell.cls := by
      obtain ⟨cell, h1, h2, h3, -⟩ := k2.kept (fun a ha hn => hS.2.1 a ha hn)
      exact ⟨cell, h1, h2, h3⟩
    have hfl : 5 ≤ frN j ∧ 150 ≤ loN j := by
      rcases hp with hp | hp <;> (simp only [ichk, hp] at hc; simpa using hc)
    have hpre : ∀ (av : List Value) (U : State), H.size ≤ s₀.heap.size + c → U.heap = H → s₀.WarmedH U.vm → PreJ g sh σ av av.toArray U := fun av U hz hU hW => ⟨rfl, hctx.go hS hU hW, by rw [hU]; exact wo, fun q => by rw [hU]; exact A.size q hz⟩
    have hcc := A.2.2.2.2.2.2.2.1
    have hss := A.2.2.2.2.2.2.2.2.1
    have fin : ∀ {v : PV} {S' : List PV} {H1 : Heap} {locs1 : List Loc}, rngV v → (∀ u, u ∈ S' → rngV u) → World g sh σ H1 → va_S (gA g) s₀.heap H1 locs1 → SemX j (pc + 3) L (v :: S') sh c s σ Q → W p l e Rm s₀ m args below meth cd H1 locs1 c s Z (F0 m (pc + 3) ls ((v :: S').map (mkV g))) := by
      intro v S' H1 locs1 hv hs' hw1 hS1 hx
      exact hx _ _ _ _ _ _ _ _ _ _ _ _ _ _ _ _ ⟨A.1, A.2.1, A.2.2.1, A.2.2.2.1, rc hv hs', hw1, hS1, hcc, hss, A.2.2.2.2.2.2.2.2.2⟩
    have howner : ∀ k, (k = 1008 ∨ k = 1009) → poolAt t_meth (ownN j) i = some k → ownN j = 6 ∧ i = (if k = 1008 then 28 else 34) := by
      intro k hk hp
      obtain ⟨cc', h1, h2, h3⟩ := poolAt_some hp
      have h3 : ownN j < 13 := h3
      have hall : ∀ o, o < 13 → ∀ r, r < 800 → (poolAt t_meth o r = some 1008 → o = 6 ∧ r = 28) ∧ (poolAt t_meth o r = some 1009 → o = 6 ∧ r = 34) := by decide +kernel
      have hi : i < 800 := by
        have hl : ∀ o, o < 13 → ∀ c', t_meth[o]? = some c' → 16 * c'.length ≤ 800 := by
          intro o ho c' hc'
          have : ∀ o, o < 13 → ((t_meth[o]?).map (fun c' => decide (16 * c'.length ≤ 800))) = some true := by decide +kernel
          have := this o ho
          rw [hc'] at this
          exact of_decide_eq_true (Option.some.inj this)
        have := hl _ h3 _ h1
        omega
      have := hall _ h3 _ hi
      rcases hk with rfl | rfl
      · exact this.1 hp
      · exact this.2 hp
    rcases hp with hp | hp
    · obtain ⟨ho, hi⟩ := howner 1008 (Or.inl rfl) hp
      simp only [if_true] at hi
      subst hi
      have hown : s₀.vm.findClass "CushionCourt$Reader" = some m.cls := by have := A.1.2.2.2.1; rw [ho] at this; exact this
      simp only [wpI, hp] at h
      split at h
      · rename_i S'
        obtain ⟨h8, h⟩ := gd_ok h
        refine W_size fun hz0 => ?_
        refine call_go (k := 1008) (g := g) (sh := sh) (rest := S'.map (mkV g)) (va_runV (Ts := GWl) (C := "java/lang/String") (As := []) (b := gWo g) ⟨A.1.1, A.1.2.1, A.1.2.2.1, hown, A.1.2.2.2.2.1⟩ (met_len (g := g) (sh := sh) (σ := σ)) (cwV 0 A.1.2.2.2.2.1 (good_GW (fun w hw => by
            rcases List.mem_append.mp hw with hw | hw
            · simp only [List.mem_cons, List.not_mem_nil, or_false] at hw
              rcases hw with rfl | rfl | rfl | rfl
              · exact w_l28
              · exact w_mLen
              · exact w_xLen
              · exact w_iStr
            · exact wJ_in w_cLen w hw)) rfl rfl rfl ⟨rfl, by decide, by decide, by decide +kernel⟩ ⟨by rw [hr]; show 1 + 1 ≤ frN j; omega, by rw [hr]; show 8 + (1 + 11) + 20 ≤ loN j; omega⟩) ⟨preJ_blind, hrv, fun U hU hW => hpre _ U hz0 hU hW⟩ rfl rfl A.2.2.1.1 rfl (lv_room (by rw [catS_map]; exact h8)) hdg ⟨by rw [hr]; exact hcc, by rw [hr]; exact hss⟩) hS (fun r sh' σ' H1 locs1 q1 q2 q3 q4 q5 => ?_)
        obtain ⟨rfl, rfl, rfl⟩ := q1
        exact fin (v := vi 95) (And.intro (by decide) (by decide)) (rt A.rS) q3 q4 h
      · exact h.elim
    · obtain ⟨ho, hi⟩ := howner 1009 (Or.inr rfl) hp
      simp only [show ¬ (1009 = 1008) by decide, if_false] at hi
      subst hi
      have hown : s₀.vm.findClass "CushionCourt$Reader" = some m.cls := by have := A.1.2.2.2.1; rw [ho] at this; exact this
      simp only [wpI, hp] at h
      split at h
      · rename_i n S'
        obtain ⟨h8, hn, h⟩ := gd_ok h
        refine W_size fun hz0 => ?_
        refine call_go (k := 1008) (g := g) (sh := sh) (rest := S'.map (mkV g)) (va_runV (Ts := GWl) (C := "java/lang/String") (As := [.int (Int32.ofInt n)]) (b := gWo g) ⟨A.1.1, A.1.2.1, A.1.2.2.1, hown, A.1.2.2.2.2.1⟩ (met_char (g := g) (sh := sh) (σ := σ) hn) (cwV 1 A.1.2.2.2.2.1 (good_GW (fun w hw => by
            rcases List.mem_append.mp hw with hw | hw
            · simp only [List.mem_cons, List.not_mem_nil, or_false] at hw
              rcases hw with rfl | rfl | rfl | rfl
              · exact w_l34
              · exact w_mChar
              · exact w_xChar
              · exact w_iStr
            · exact wJ_in w_cChar w hw)) rfl rfl rfl ⟨rfl, by decide, by decide, by decide +kernel⟩ ⟨by rw [hr]; show 3 + 1 ≤ frN j; omega, by rw [hr]; show 8 + (2 + 11) + 64 ≤ loN j; omega⟩) ⟨preJ_blind, hrv, fun U hU hW => hpre _ U hz0 hU hW⟩ rfl rfl A.2.2.1.1 rfl (lv_room (by rw [catS_map]; exact h8)) hdg ⟨by rw [hr]; exact hcc, by rw [hr]; exact hss⟩) hS (fun r sh' σ' H1 locs1 q1 q2 q3 q4 q5 => ?_)
        obtain ⟨rfl, rfl, rfl⟩ := q1
        have e1 : wd n.toNat = gi σ' 2 n.toNat := (q3.2.2.2.2.1 n.toNat (by omega)).symm
        rw [e1]
        exact fin (v := vi (gi σ' 2 n.toNat)) (q3.2.2.2.2.2.1 _ _) (rt (rt A.rS)) q3 q4 h
      · exact h.elim
