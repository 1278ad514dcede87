/-! SOUNDNESS, instruction by instruction -/
def retI (j pc : Nat) (r : Option PV) : Prop := match r with
  | some (.inl v) => decode (bytesN j) pc = .ok (.ireturn, 1) ∧ (retN j = 1 ∨ (retN j = 3 ∧ (v = 0 ∨ v = 1)))
  | some (.inr (.inl _)) => decode (bytesN j) pc = .ok (.lreturn, 1) ∧ retN j = 2
  | none => decode (bytesN j) pc = .ok (.return_, 1) ∧ retN j = 0
  | _ => False
/-- what a frame owes at its return -/
def Hand (g : GD) (j : Nat) (p : Program) (l : Launch) (e : Env) (Rm : Room) (s : State) (m : MethodId) (args : Array Value) (below : List Frame) (meth : Method) (cd : Code) (Z : State → Prop) (op : Bool) (Q : PQ) : Prop :=
  ∀ (r : Option PV) (sh : Sh) (σ : Mm) (H : Heap) (locs : List Loc) (c' s' pc : Nat) (ls : Array Slot), Q r sh σ → World g sh σ H → va_S (gA g) s.heap H locs → retOK j sh c' s' → (isOpen sh = true → s.heap.size + c' = gBase g + (sh.length - 3) ∧ op = true) → (∀ v, r = some v → rngV v) → retI j pc r →
    W p l e Rm s m args below meth cd H locs c' s' Z (F0 m pc ls (r.toList.map (mkV g)))
def AtF (g : GD) (j : Nat) (p : Program) (l : Launch) (e : Env) (Rm : Room) (s₀ : State) (m : MethodId) (args : Array Value) (below : List Frame) (meth : Method) (cd : Code) (Z : State → Prop) (op : Bool) (Q : PQ) (H : Heap) (locs : List Loc) (ls : Array Slot) (L : List (Option PV)) (S : List PV) (sh : Sh) (c s : Nat) (σ : Mm) : Prop :=
  FrameOK g j p l e Rm s₀ m args below meth cd ∧ Hand g j p l e Rm s₀ m args below meth cd Z op Q ∧ LocOK g ls (maxLN j) L ∧ (∀ v, some v ∈ L → rngV v) ∧ (∀ v, v ∈ S → rngV v) ∧ World g sh σ H ∧ va_S (gA g) s₀.heap H locs ∧ c ≤ mcN j ∧ s ≤ msN j ∧ (isOpen sh = true → s₀.heap.size + c = gBase g + (sh.length - 3) ∧ op = true)
def SemX : XT := fun j pc L S sh c s σ Q => ∀ (g : GD) (p : Program) (l : Launch) (e : Env) (Rm : Room) (s₀ : State) (m : MethodId) (args : Array Value) (below : List Frame) (meth : Method) (cd : Code) (Z : State → Prop) (op : Bool) (H : Heap) (locs : List Loc) (ls : Array Slot),
  AtF g j p l e Rm s₀ m args below meth cd Z op Q H locs ls L S sh c s σ → W p l e Rm s₀ m args below meth cd H locs c s Z (F0 m pc ls (S.map (mkV g)))
section SND
variable {g : GD} {j pc : Nat} {p : Program} {l : Launch} {e : Env} {Rm : Room} {s₀ : State} {m : MethodId} {args : Array Value} {below : List Frame} {meth : Method} {cd : Code} {Z : State → Prop} {op : Bool} {H : Heap} {locs : List Loc} {ls : Array Slot} {L : List (Option PV)} {S : List PV} {sh : Sh} {c s : Nat} {σ : Mm} {Q : PQ}
theorem AtF.stk {S' : List PV} (A : AtF g j p l e Rm s₀ m args below meth cd Z op Q H locs ls L S sh c s σ) (h : ∀ v, v ∈ S' → rngV v) : AtF g j p l e Rm s₀ m args below meth cd Z op Q H locs ls L S' sh c s σ := ⟨A.1, A.2.1, A.2.2.1, A.2.2.2.1, h, A.2.2.2.2.2⟩
theorem AtF.rS (A : AtF g j p l e Rm s₀ m args below meth cd Z op Q H locs ls L S sh c s σ) : ∀ v, v ∈ S → rngV v := A.2.2.2.2.1
theorem rc {v : PV} {S : List PV} (h : rngV v) (hS : ∀ u, u ∈ S → rngV u) : ∀ u, u ∈ v :: S → rngV u := fun u hu => by
  rcases List.mem_cons.mp hu with rfl | h2
  · exact h
  · exact hS u h2
theorem rt {v : PV} {S : List PV} (h : ∀ u, u ∈ v :: S → rngV u) : ∀ u, u ∈ S → rngV u := fun u hu => h u (List.mem_cons_of_mem _ hu)
theorem rh {v : PV} {S : List PV} (h : ∀ u, u ∈ v :: S → rngV u) : rngV v := h v List.mem_cons_self
theorem AtF.loc {ls' : Array Slot} {L' : List (Option PV)} {S' : List PV} (A : AtF g j p l e Rm s₀ m args below meth cd Z op Q H locs ls L S sh c s σ) (hl : LocOK g ls' (maxLN j) L') (hL : ∀ v, some v ∈ L' → rngV v) (hS : ∀ v, v ∈ S' → rngV v) : AtF g j p l e Rm s₀ m args below meth cd Z op Q H locs ls' L' S' sh c s σ := ⟨A.1, A.2.1, hl, hL, hS, A.2.2.2.2.2⟩
theorem rs1 {v : PV} {i : Nat} (h : ∀ u, some u ∈ L → rngV u) (hv : rngV v) : ∀ u, some u ∈ st1 L i v → rngV u := by
  intro u hu
  obtain ⟨a, ha⟩ := List.getElem?_of_mem hu
  rcases st1_get ha with ⟨-, rfl⟩ | ⟨-, h2, -⟩
  · exact hv
  · exact h u (List.mem_of_getElem? h2)
theorem rs2 {z : Int} {i : Nat} (h : ∀ u, some u ∈ L → rngV u) (hv : rngV (.inr (.inl z))) : ∀ u, some u ∈ st2 L i z → rngV u := by
  intro u hu
  obtain ⟨a, ha⟩ := List.getElem?_of_mem hu
  rcases getO_set ha with ⟨-, h9⟩ | ⟨-, h1⟩
  · cases h9
  · rcases st1_get h1 with ⟨-, rfl⟩ | ⟨-, h2, -⟩
    · exact hv
    · exact h u (List.mem_of_getElem? h2)
theorem jmp_eq {off : Int} (h : jOK pc off = true) : (pc : Int) + off = (jmp pc off : Int) := by
  unfold jOK at h
  have h := of_decide_eq_true h
  unfold jmp
  omega
theorem lcmp_eq {a b : Int} (ha : in64 a) (hb : in64 b) : lg_cmp (Int64.ofInt a) (Int64.ofInt b) = Int32.ofInt (if a < b then -1 else if a = b then 0 else 1) := by
  unfold lg_cmp
  by_cases h1 : a < b
  · have q1 : ¬ Int64.ofInt a > Int64.ofInt b := fun q => by have := (m_lt hb ha).mp q; omega
    have q2 : ¬ Int64.ofInt a = Int64.ofInt b := fun q => by have := (m_eq ha hb).mp q; omega
    rw [if_neg q1, if_neg q2, if_pos h1]; rfl
  · by_cases h2 : a = b
    · subst h2
      have q1 : ¬ Int64.ofInt a > Int64.ofInt a := fun q => by have := (m_lt hb ha).mp q; omega
      rw [if_neg q1, if_pos rfl, if_neg h1, if_pos rfl]; rfl
    · have q1 : Int64.ofInt a > Int64.ofInt b := (m_lt hb ha).mpr (by omega)
      rw [if_pos q1, if_neg h1, if_neg h2]; rfl
theorem m_0 : Int64.ofInt 0 = 0 := rfl

theorem s_iconst {n : Int} (A : AtF g j p l e Rm s₀ m args below meth cd Z op Q H locs ls L S sh c s σ) (hd : decode (bytesN j) pc = .ok (.iconst n, 1)) (hc : -128 ≤ n ∧ n < 128) (h : wpI SemX SemX j pc L S sh c s σ Q (.iconst n)) : W p l e Rm s₀ m args below meth cd H locs c s Z (F0 m pc ls (S.map (mkV g))) :=
  lv_iconst A.1.1 A.1.2.1 hd rfl (h _ _ _ _ _ _ _ _ _ _ _ _ _ _ _ _ (A.stk (rc (by show -2147483648 ≤ n ∧ n < 2147483648; omega) A.rS)))
theorem s_bipush {n : Int} (A : AtF g j p l e Rm s₀ m args below meth cd Z op Q H locs ls L S sh c s σ) (hd : decode (bytesN j) pc = .ok (.bipush n, 2)) (hc : -128 ≤ n ∧ n < 128) (h : wpI SemX SemX j pc L S sh c s σ Q (.bipush n)) : W p l e Rm s₀ m args below meth cd H locs c s Z (F0 m pc ls (S.map (mkV g))) :=
  lv_bipush A.1.1 A.1.2.1 hd (n_i8 hc) (h _ _ _ _ _ _ _ _ _ _ _ _ _ _ _ _ (A.stk (rc (by show -2147483648 ≤ n ∧ n < 2147483648; omega) A.rS)))
theorem s_sipush {n : Int} (A : AtF g j p l e Rm s₀ m args below meth cd Z op Q H locs ls L S sh c s σ) (hd : decode (bytesN j) pc = .ok (.sipush n, 3)) (hc : -32768 ≤ n ∧ n < 32768) (h : wpI SemX SemX j pc L S sh c s σ Q (.sipush n)) : W p l e Rm s₀ m args below meth cd H locs c s Z (F0 m pc ls (S.map (mkV g))) :=
  lv_sipush A.1.1 A.1.2.1 hd (n_i16 hc) (h _ _ _ _ _ _ _ _ _ _ _ _ _ _ _ _ (A.stk (rc (by show -2147483648 ≤ n ∧ n < 2147483648; omega) A.rS)))
theorem s_lconst {n : Fin 2} (A : AtF g j p l e Rm s₀ m args below meth cd Z op Q H locs ls L S sh c s σ) (hd : decode (bytesN j) pc = .ok (.lconst n, 1))  (h : wpI SemX SemX j pc L S sh c s σ Q (.lconst n)) : W p l e Rm s₀ m args below meth cd H locs c s Z (F0 m pc ls (S.map (mkV g))) :=
  lv_lconst A.1.1 A.1.2.1 hd (m_nat _) (h _ _ _ _ _ _ _ _ _ _ _ _ _ _ _ _ (A.stk (rc (by have := n.isLt; show -9223372036854775808 ≤ (n.val : Int) ∧ (n.val : Int) < 9223372036854775808; omega) A.rS)))
theorem s_ldc_w {i : Nat} (A : AtF g j p l e Rm s₀ m args below meth cd Z op Q H locs ls L S sh c s σ) (hd : decode (bytesN j) pc = .ok (.ldc_w i, 3))  (h : wpI SemX SemX j pc L S sh c s σ Q (.ldc_w i)) : W p l e Rm s₀ m args below meth cd H locs c s Z (F0 m pc ls (S.map (mkV g))) := by
  simp only [wpI] at h
  split at h
  · rename_i v hv
    have hk := kchk_all hv
    unfold kchk at hk
    rw [hv] at hk
    simp only [Bool.and_eq_true, decide_eq_true_eq] at hk
    exact lv_ldcw A.1.1 A.1.2.1 A.1.2.2.2.1 (A.1.2.2.2.2.1 _ (gwAt_mem hk.2)) hd (h _ _ _ _ _ _ _ _ _ _ _ _ _ _ _ _ (A.stk (rc hk.1 A.rS)))
  · exact h.elim
theorem s_ldc2 {i : Nat} (A : AtF g j p l e Rm s₀ m args below meth cd Z op Q H locs ls L S sh c s σ) (hd : decode (bytesN j) pc = .ok (.ldc2_w i, 3))  (h : wpI SemX SemX j pc L S sh c s σ Q (.ldc2_w i)) : W p l e Rm s₀ m args below meth cd H locs c s Z (F0 m pc ls (S.map (mkV g))) := by
  simp only [wpI] at h
  split at h
  · rename_i v hv
    have hk := klchk_all hv
    unfold klchk at hk
    rw [hv] at hk
    simp only [Bool.and_eq_true, decide_eq_true_eq] at hk
    exact lv_ldc2 A.1.1 A.1.2.1 A.1.2.2.2.1 (A.1.2.2.2.2.1 _ (gwAt_mem hk.2)) hd (h _ _ _ _ _ _ _ _ _ _ _ _ _ _ _ _ (A.stk (rc hk.1 A.rS)))
  · exact h.elim
theorem s_iload {i : Nat} (A : AtF g j p l e Rm s₀ m args below meth cd Z op Q H locs ls L S sh c s σ) (hd : decode (bytesN j) pc = .ok (.iload i, 2))  (h : wpI SemX SemX j pc L S sh c s σ Q (.iload i)) : W p l e Rm s₀ m args below meth cd H locs c s Z (F0 m pc ls (S.map (mkV g))) := by
  simp only [wpI, ldI] at h
  split at h
  · rename_i a ha
    exact lv_iload A.1.1 A.1.2.1 hd (loc_at A.2.2.1 ha) (h _ _ _ _ _ _ _ _ _ _ _ _ _ _ _ _ (A.stk (rc (A.2.2.2.1 _ (List.mem_of_getElem? ha)) A.rS)))
  · exact h.elim
theorem s_iload_n {i : Fin 4} (A : AtF g j p l e Rm s₀ m args below meth cd Z op Q H locs ls L S sh c s σ) (hd : decode (bytesN j) pc = .ok (.iload_n i, 1))  (h : wpI SemX SemX j pc L S sh c s σ Q (.iload_n i)) : W p l e Rm s₀ m args below meth cd H locs c s Z (F0 m pc ls (S.map (mkV g))) := by
  simp only [wpI, ldI] at h
  split at h
  · rename_i a ha
    exact lv_iload_n A.1.1 A.1.2.1 hd rfl (loc_at A.2.2.1 ha) (h _ _ _ _ _ _ _ _ _ _ _ _ _ _ _ _ (A.stk (rc (A.2.2.2.1 _ (List.mem_of_getElem? ha)) A.rS)))
  · exact h.elim
theorem s_lload {i : Nat} (A : AtF g j p l e Rm s₀ m args below meth cd Z op Q H locs ls L S sh c s σ) (hd : decode (bytesN j) pc = .ok (.lload i, 2))  (h : wpI SemX SemX j pc L S sh c s σ Q (.lload i)) : W p l e Rm s₀ m args below meth cd H locs c s Z (F0 m pc ls (S.map (mkV g))) := by
  simp only [wpI, ldL] at h
  split at h
  · rename_i a ha
    exact lv_lload A.1.1 A.1.2.1 hd (loc_at A.2.2.1 ha) (h _ _ _ _ _ _ _ _ _ _ _ _ _ _ _ _ (A.stk (rc (A.2.2.2.1 _ (List.mem_of_getElem? ha)) A.rS)))
  · exact h.elim
theorem s_lload_n {i : Fin 4} (A : AtF g j p l e Rm s₀ m args below meth cd Z op Q H locs ls L S sh c s σ) (hd : decode (bytesN j) pc = .ok (.lload_n i, 1))  (h : wpI SemX SemX j pc L S sh c s σ Q (.lload_n i)) : W p l e Rm s₀ m args below meth cd H locs c s Z (F0 m pc ls (S.map (mkV g))) := by
  simp only [wpI, ldL] at h
  split at h
  · rename_i a ha
    exact lv_lload_n A.1.1 A.1.2.1 hd rfl (loc_at A.2.2.1 ha) (h _ _ _ _ _ _ _ _ _ _ _ _ _ _ _ _ (A.stk (rc (A.2.2.2.1 _ (List.mem_of_getElem? ha)) A.rS)))
  · exact h.elim
theorem s_aload {i : Nat} (A : AtF g j p l e Rm s₀ m args below meth cd Z op Q H locs ls L S sh c s σ) (hd : decode (bytesN j) pc = .ok (.aload i, 2))  (h : wpI SemX SemX j pc L S sh c s σ Q (.aload i)) : W p l e Rm s₀ m args below meth cd H locs c s Z (F0 m pc ls (S.map (mkV g))) := by
  simp only [wpI, ldA] at h
  split at h
  · rename_i a ha
    exact lv_aload A.1.1 A.1.2.1 hd (loc_at A.2.2.1 ha) (h _ _ _ _ _ _ _ _ _ _ _ _ _ _ _ _ (A.stk (rc (A.2.2.2.1 _ (List.mem_of_getElem? ha)) A.rS)))
  · exact h.elim
theorem s_aload_n {i : Fin 4} (A : AtF g j p l e Rm s₀ m args below meth cd Z op Q H locs ls L S sh c s σ) (hd : decode (bytesN j) pc = .ok (.aload_n i, 1))  (h : wpI SemX SemX j pc L S sh c s σ Q (.aload_n i)) : W p l e Rm s₀ m args below meth cd H locs c s Z (F0 m pc ls (S.map (mkV g))) := by
  simp only [wpI, ldA] at h
  split at h
  · rename_i a ha
    exact lv_aload_n A.1.1 A.1.2.1 hd rfl (loc_at A.2.2.1 ha) (h _ _ _ _ _ _ _ _ _ _ _ _ _ _ _ _ (A.stk (rc (A.2.2.2.1 _ (List.mem_of_getElem? ha)) A.rS)))
  · exact h.elim
theorem s_istore {i : Nat} (A : AtF g j p l e Rm s₀ m args below meth cd Z op Q H locs ls L S sh c s σ) (hd : decode (bytesN j) pc = .ok (.istore i, 2)) (hc : i < maxLN j) (h : wpI SemX SemX j pc L S sh c s σ Q (.istore i)) : W p l e Rm s₀ m args below meth cd H locs c s Z (F0 m pc ls (S.map (mkV g))) := by
  simp only [wpI] at h
  split at h
  · rename_i a S'
    exact lv_istore A.1.1 A.1.2.1 hd A.2.2.1 hc rfl (fun ls' hl => h _ _ _ _ _ _ _ _ _ _ _ _ _ _ _ _ (A.loc (loc_st1 hl) (rs1 A.2.2.2.1 (rh A.rS)) (rt A.rS)))
  · exact h.elim
theorem s_istore_n {i : Fin 4} (A : AtF g j p l e Rm s₀ m args below meth cd Z op Q H locs ls L S sh c s σ) (hd : decode (bytesN j) pc = .ok (.istore_n i, 1)) (hc : i.val < maxLN j) (h : wpI SemX SemX j pc L S sh c s σ Q (.istore_n i)) : W p l e Rm s₀ m args below meth cd H locs c s Z (F0 m pc ls (S.map (mkV g))) := by
  simp only [wpI] at h
  split at h
  · rename_i a S'
    exact lv_istore_n A.1.1 A.1.2.1 hd rfl A.2.2.1 hc rfl (fun ls' hl => h _ _ _ _ _ _ _ _ _ _ _ _ _ _ _ _ (A.loc (loc_st1 hl) (rs1 A.2.2.2.1 (rh A.rS)) (rt A.rS)))
  · exact h.elim
theorem s_astore {i : Nat} (A : AtF g j p l e Rm s₀ m args below meth cd Z op Q H locs ls L S sh c s σ) (hd : decode (bytesN j) pc = .ok (.astore i, 2)) (hc : i < maxLN j) (h : wpI SemX SemX j pc L S sh c s σ Q (.astore i)) : W p l e Rm s₀ m args below meth cd H locs c s Z (F0 m pc ls (S.map (mkV g))) := by
  simp only [wpI] at h
  split at h
  · rename_i a S'
    exact lv_astore A.1.1 A.1.2.1 hd A.2.2.1 hc rfl (fun ls' hl => h _ _ _ _ _ _ _ _ _ _ _ _ _ _ _ _ (A.loc (loc_st1 hl) (rs1 A.2.2.2.1 (rh A.rS)) (rt A.rS)))
  · exact h.elim
theorem s_astore_n {i : Fin 4} (A : AtF g j p l e Rm s₀ m args below meth cd Z op Q H locs ls L S sh c s σ) (hd : decode (bytesN j) pc = .ok (.astore_n i, 1)) (hc : i.val < maxLN j) (h : wpI SemX SemX j pc L S sh c s σ Q (.astore_n i)) : W p l e Rm s₀ m args below meth cd H locs c s Z (F0 m pc ls (S.map (mkV g))) := by
  simp only [wpI] at h
  split at h
  · rename_i a S'
    exact lv_astore_n A.1.1 A.1.2.1 hd rfl A.2.2.1 hc rfl (fun ls' hl => h _ _ _ _ _ _ _ _ _ _ _ _ _ _ _ _ (A.loc (loc_st1 hl) (rs1 A.2.2.2.1 (rh A.rS)) (rt A.rS)))
  · exact h.elim
theorem s_lstore {i : Nat} (A : AtF g j p l e Rm s₀ m args below meth cd Z op Q H locs ls L S sh c s σ) (hd : decode (bytesN j) pc = .ok (.lstore i, 2)) (hc : i + 1 < maxLN j) (h : wpI SemX SemX j pc L S sh c s σ Q (.lstore i)) : W p l e Rm s₀ m args below meth cd H locs c s Z (F0 m pc ls (S.map (mkV g))) := by
  simp only [wpI] at h
  split at h
  · rename_i a S'
    exact lv_lstore A.1.1 A.1.2.1 hd A.2.2.1 hc rfl (fun ls' hl => h _ _ _ _ _ _ _ _ _ _ _ _ _ _ _ _ (A.loc (loc_st2 hl) (rs2 A.2.2.2.1 (rh A.rS)) (rt A.rS)))
  · exact h.elim
theorem s_lstore_n {i : Fin 4} (A : AtF g j p l e Rm s₀ m args below meth cd Z op Q H locs ls L S sh c s σ) (hd : decode (bytesN j) pc = .ok (.lstore_n i, 1)) (hc : i.val + 1 < maxLN j) (h : wpI SemX SemX j pc L S sh c s σ Q (.lstore_n i)) : W p l e Rm s₀ m args below meth cd H locs c s Z (F0 m pc ls (S.map (mkV g))) := by
  simp only [wpI] at h
  split at h
  · rename_i a S'
    exact lv_lstore_n A.1.1 A.1.2.1 hd rfl A.2.2.1 hc rfl (fun ls' hl => h _ _ _ _ _ _ _ _ _ _ _ _ _ _ _ _ (A.loc (loc_st2 hl) (rs2 A.2.2.2.1 (rh A.rS)) (rt A.rS)))
  · exact h.elim
theorem s_iinc {i : Nat} {n : Int} (A : AtF g j p l e Rm s₀ m args below meth cd Z op Q H locs ls L S sh c s σ) (hd : decode (bytesN j) pc = .ok (.iinc i n, 3)) (hc : i < maxLN j) (h : wpI SemX SemX j pc L S sh c s σ Q (.iinc i n)) : W p l e Rm s₀ m args below meth cd H locs c s Z (F0 m pc ls (S.map (mkV g))) := by
  simp only [wpI] at h
  split at h
  · rename_i a ha
    have hm : (i, mkV g (.inl a)) ∈ asl g L := mem_asl.mpr ⟨_, ha, rfl⟩
    obtain ⟨k, hk⟩ := List.getElem?_of_mem hm
    exact lv_iinc (v := Int32.ofInt (w32 (a + n))) A.1.1 A.1.2.1 hd A.2.2.1 hk (n_add a n) hc rfl (fun ls' hl => h _ _ _ _ _ _ _ _ _ _ _ _ _ _ _ _ (A.loc (loc_st1 (v := .inl (w32 (a + n))) hl) (rs1 A.2.2.2.1 (w32_in _)) A.rS))
  · exact h.elim
theorem s_iadd  (A : AtF g j p l e Rm s₀ m args below meth cd Z op Q H locs ls L S sh c s σ) (hd : decode (bytesN j) pc = .ok (.iadd, 1))  (h : wpI SemX SemX j pc L S sh c s σ Q (.iadd)) : W p l e Rm s₀ m args below meth cd H locs c s Z (F0 m pc ls (S.map (mkV g))) := by
  simp only [wpI] at h
  split at h
  · rename_i b a S'
    have r := A.rS
    refine lv_iadd A.1.1 A.1.2.1 hd ?_
    rw [n_add]
    exact h _ _ _ _ _ _ _ _ _ _ _ _ _ _ _ _ (A.stk (rc (w32_in _) (rt (rt r))))
  · exact h.elim
theorem s_isub  (A : AtF g j p l e Rm s₀ m args below meth cd Z op Q H locs ls L S sh c s σ) (hd : decode (bytesN j) pc = .ok (.isub, 1))  (h : wpI SemX SemX j pc L S sh c s σ Q (.isub)) : W p l e Rm s₀ m args below meth cd H locs c s Z (F0 m pc ls (S.map (mkV g))) := by
  simp only [wpI] at h
  split at h
  · rename_i b a S'
    have r := A.rS
    refine lv_isub A.1.1 A.1.2.1 hd ?_
    rw [n_sub]
    exact h _ _ _ _ _ _ _ _ _ _ _ _ _ _ _ _ (A.stk (rc (w32_in _) (rt (rt r))))
  · exact h.elim
theorem s_imul  (A : AtF g j p l e Rm s₀ m args below meth cd Z op Q H locs ls L S sh c s σ) (hd : decode (bytesN j) pc = .ok (.imul, 1))  (h : wpI SemX SemX j pc L S sh c s σ Q (.imul)) : W p l e Rm s₀ m args below meth cd H locs c s Z (F0 m pc ls (S.map (mkV g))) := by
  simp only [wpI] at h
  split at h
  · rename_i b a S'
    have r := A.rS
    refine lv_imul A.1.1 A.1.2.1 hd ?_
    rw [n_mul]
    exact h _ _ _ _ _ _ _ _ _ _ _ _ _ _ _ _ (A.stk (rc (w32_in _) (rt (rt r))))
  · exact h.elim
theorem s_iand  (A : AtF g j p l e Rm s₀ m args below meth cd Z op Q H locs ls L S sh c s σ) (hd : decode (bytesN j) pc = .ok (.iand, 1))  (h : wpI SemX SemX j pc L S sh c s σ Q (.iand)) : W p l e Rm s₀ m args below meth cd H locs c s Z (F0 m pc ls (S.map (mkV g))) := by
  simp only [wpI] at h
  split at h
  · rename_i b a S'
    have r := A.rS
    refine lv_iand A.1.1 A.1.2.1 hd ?_
    rw [← n_and]
    exact h _ _ _ _ _ _ _ _ _ _ _ _ _ _ _ _ (A.stk (rc (in32_toInt _) (rt (rt r))))
  · exact h.elim
theorem s_ior  (A : AtF g j p l e Rm s₀ m args below meth cd Z op Q H locs ls L S sh c s σ) (hd : decode (bytesN j) pc = .ok (.ior, 1))  (h : wpI SemX SemX j pc L S sh c s σ Q (.ior)) : W p l e Rm s₀ m args below meth cd H locs c s Z (F0 m pc ls (S.map (mkV g))) := by
  simp only [wpI] at h
  split at h
  · rename_i b a S'
    have r := A.rS
    refine lv_ior A.1.1 A.1.2.1 hd ?_
    rw [← n_or]
    exact h _ _ _ _ _ _ _ _ _ _ _ _ _ _ _ _ (A.stk (rc (in32_toInt _) (rt (rt r))))
  · exact h.elim
theorem s_ixor  (A : AtF g j p l e Rm s₀ m args below meth cd Z op Q H locs ls L S sh c s σ) (hd : decode (bytesN j) pc = .ok (.ixor, 1))  (h : wpI SemX SemX j pc L S sh c s σ Q (.ixor)) : W p l e Rm s₀ m args below meth cd H locs c s Z (F0 m pc ls (S.map (mkV g))) := by
  simp only [wpI] at h
  split at h
  · rename_i b a S'
    have r := A.rS
    refine lv_ixor A.1.1 A.1.2.1 hd ?_
    rw [← n_xor]
    exact h _ _ _ _ _ _ _ _ _ _ _ _ _ _ _ _ (A.stk (rc (in32_toInt _) (rt (rt r))))
  · exact h.elim
theorem s_ishl  (A : AtF g j p l e Rm s₀ m args below meth cd Z op Q H locs ls L S sh c s σ) (hd : decode (bytesN j) pc = .ok (.ishl, 1))  (h : wpI SemX SemX j pc L S sh c s σ Q (.ishl)) : W p l e Rm s₀ m args below meth cd H locs c s Z (F0 m pc ls (S.map (mkV g))) := by
  simp only [wpI] at h
  split at h
  · rename_i b a S'
    have r := A.rS
    refine lv_ishl A.1.1 A.1.2.1 hd ?_
    rw [← n_shl]
    exact h _ _ _ _ _ _ _ _ _ _ _ _ _ _ _ _ (A.stk (rc (in32_toInt _) (rt (rt r))))
  · exact h.elim
theorem s_ishr  (A : AtF g j p l e Rm s₀ m args below meth cd Z op Q H locs ls L S sh c s σ) (hd : decode (bytesN j) pc = .ok (.ishr, 1))  (h : wpI SemX SemX j pc L S sh c s σ Q (.ishr)) : W p l e Rm s₀ m args below meth cd H locs c s Z (F0 m pc ls (S.map (mkV g))) := by
  simp only [wpI] at h
  split at h
  · rename_i b a S'
    have r := A.rS
    refine lv_ishr A.1.1 A.1.2.1 hd ?_
    rw [← n_shr]
    exact h _ _ _ _ _ _ _ _ _ _ _ _ _ _ _ _ (A.stk (rc (in32_toInt _) (rt (rt r))))
  · exact h.elim
theorem s_ladd  (A : AtF g j p l e Rm s₀ m args below meth cd Z op Q H locs ls L S sh c s σ) (hd : decode (bytesN j) pc = .ok (.ladd, 1))  (h : wpI SemX SemX j pc L S sh c s σ Q (.ladd)) : W p l e Rm s₀ m args below meth cd H locs c s Z (F0 m pc ls (S.map (mkV g))) := by
  simp only [wpI] at h
  split at h
  · rename_i b a S'
    have r := A.rS
    refine lv_ladd A.1.1 A.1.2.1 hd ?_
    rw [m_add]
    exact h _ _ _ _ _ _ _ _ _ _ _ _ _ _ _ _ (A.stk (rc (w64_in _) (rt (rt r))))
  · exact h.elim
theorem s_lsub  (A : AtF g j p l e Rm s₀ m args below meth cd Z op Q H locs ls L S sh c s σ) (hd : decode (bytesN j) pc = .ok (.lsub, 1))  (h : wpI SemX SemX j pc L S sh c s σ Q (.lsub)) : W p l e Rm s₀ m args below meth cd H locs c s Z (F0 m pc ls (S.map (mkV g))) := by
  simp only [wpI] at h
  split at h
  · rename_i b a S'
    have r := A.rS
    refine lv_lsub A.1.1 A.1.2.1 hd ?_
    rw [m_sub]
    exact h _ _ _ _ _ _ _ _ _ _ _ _ _ _ _ _ (A.stk (rc (w64_in _) (rt (rt r))))
  · exact h.elim
theorem s_lmul  (A : AtF g j p l e Rm s₀ m args below meth cd Z op Q H locs ls L S sh c s σ) (hd : decode (bytesN j) pc = .ok (.lmul, 1))  (h : wpI SemX SemX j pc L S sh c s σ Q (.lmul)) : W p l e Rm s₀ m args below meth cd H locs c s Z (F0 m pc ls (S.map (mkV g))) := by
  simp only [wpI] at h
  split at h
  · rename_i b a S'
    have r := A.rS
    refine lv_lmul A.1.1 A.1.2.1 hd ?_
    rw [m_mul]
    exact h _ _ _ _ _ _ _ _ _ _ _ _ _ _ _ _ (A.stk (rc (w64_in _) (rt (rt r))))
  · exact h.elim
theorem s_land  (A : AtF g j p l e Rm s₀ m args below meth cd Z op Q H locs ls L S sh c s σ) (hd : decode (bytesN j) pc = .ok (.land, 1))  (h : wpI SemX SemX j pc L S sh c s σ Q (.land)) : W p l e Rm s₀ m args below meth cd H locs c s Z (F0 m pc ls (S.map (mkV g))) := by
  simp only [wpI] at h
  split at h
  · rename_i b a S'
    have r := A.rS
    refine lv_land A.1.1 A.1.2.1 hd ?_
    rw [← m_and]
    exact h _ _ _ _ _ _ _ _ _ _ _ _ _ _ _ _ (A.stk (rc (in64_toInt _) (rt (rt r))))
  · exact h.elim
theorem s_iushr  (A : AtF g j p l e Rm s₀ m args below meth cd Z op Q H locs ls L S sh c s σ) (hd : decode (bytesN j) pc = .ok (.iushr, 1))  (h : wpI SemX SemX j pc L S sh c s σ Q (.iushr)) : W p l e Rm s₀ m args below meth cd H locs c s Z (F0 m pc ls (S.map (mkV g))) := by
  simp only [wpI] at h
  split at h
  · rename_i b a S'
    have r := A.rS
    exact lv_iushr A.1.1 A.1.2.1 hd (n_ushr a b).symm (h _ _ _ _ _ _ _ _ _ _ _ _ _ _ _ _ (A.stk (rc (in32_toInt _) (rt (rt r)))))
  · exact h.elim
theorem s_idiv  (A : AtF g j p l e Rm s₀ m args below meth cd Z op Q H locs ls L S sh c s σ) (hd : decode (bytesN j) pc = .ok (.idiv, 1))  (h : wpI SemX SemX j pc L S sh c s σ Q (.idiv)) : W p l e Rm s₀ m args below meth cd H locs c s Z (F0 m pc ls (S.map (mkV g))) := by
  simp only [wpI] at h
  split at h
  · rename_i b a S'
    obtain ⟨hne, h⟩ := h
    have r := A.rS
    refine lv_idiv A.1.1 A.1.2.1 hd (fun q => hne ((n_eq (rh r) in32_0).mp q)) ?_
    rw [n_div (rh (rt r)) (rh r)]
    exact h _ _ _ _ _ _ _ _ _ _ _ _ _ _ _ _ (A.stk (rc (w32_in _) (rt (rt r))))
  · exact h.elim
theorem s_irem  (A : AtF g j p l e Rm s₀ m args below meth cd Z op Q H locs ls L S sh c s σ) (hd : decode (bytesN j) pc = .ok (.irem, 1))  (h : wpI SemX SemX j pc L S sh c s σ Q (.irem)) : W p l e Rm s₀ m args below meth cd H locs c s Z (F0 m pc ls (S.map (mkV g))) := by
  simp only [wpI] at h
  split at h
  · rename_i b a S'
    obtain ⟨hne, h⟩ := h
    have r := A.rS
    refine lv_irem A.1.1 A.1.2.1 hd (fun q => hne ((n_eq (rh r) in32_0).mp q)) ?_
    rw [n_rem (rh (rt r)) (rh r)]
    exact h _ _ _ _ _ _ _ _ _ _ _ _ _ _ _ _ (A.stk (rc (tmod_in (rh (rt r))) (rt (rt r))))
  · exact h.elim
theorem s_ldiv  (A : AtF g j p l e Rm s₀ m args below meth cd Z op Q H locs ls L S sh c s σ) (hd : decode (bytesN j) pc = .ok (.ldiv, 1))  (h : wpI SemX SemX j pc L S sh c s σ Q (.ldiv)) : W p l e Rm s₀ m args below meth cd H locs c s Z (F0 m pc ls (S.map (mkV g))) := by
  simp only [wpI] at h
  split at h
  · rename_i b a S'
    obtain ⟨hne, h⟩ := h
    have r := A.rS
    refine lv_ldiv A.1.1 A.1.2.1 hd (fun q => hne ((m_eq (rh r) in64_0).mp q)) ?_
    rw [m_div (rh (rt r)) (rh r)]
    exact h _ _ _ _ _ _ _ _ _ _ _ _ _ _ _ _ (A.stk (rc (w64_in _) (rt (rt r))))
  · exact h.elim
theorem s_lrem  (A : AtF g j p l e Rm s₀ m args below meth cd Z op Q H locs ls L S sh c s σ) (hd : decode (bytesN j) pc = .ok (.lrem, 1))  (h : wpI SemX SemX j pc L S sh c s σ Q (.lrem)) : W p l e Rm s₀ m args below meth cd H locs c s Z (F0 m pc ls (S.map (mkV g))) := by
  simp only [wpI] at h
  split at h
  · rename_i b a S'
    obtain ⟨hne, h⟩ := h
    have r := A.rS
    refine lv_lrem A.1.1 A.1.2.1 hd (fun q => hne ((m_eq (rh r) in64_0).mp q)) ?_
    rw [m_rem (rh (rt r)) (rh r)]
    exact h _ _ _ _ _ _ _ _ _ _ _ _ _ _ _ _ (A.stk (rc (tmod_in64 (rh (rt r))) (rt (rt r))))
  · exact h.elim
theorem s_ineg  (A : AtF g j p l e Rm s₀ m args below meth cd Z op Q H locs ls L S sh c s σ) (hd : decode (bytesN j) pc = .ok (.ineg, 1))  (h : wpI SemX SemX j pc L S sh c s σ Q (.ineg)) : W p l e Rm s₀ m args below meth cd H locs c s Z (F0 m pc ls (S.map (mkV g))) := by
  simp only [wpI] at h
  split at h
  · rename_i a S'
    have r := A.rS
    refine lv_ineg A.1.1 A.1.2.1 hd ?_
    rw [n_neg]
    exact h _ _ _ _ _ _ _ _ _ _ _ _ _ _ _ _ (A.stk (rc (w32_in _) (rt r)))
  · exact h.elim
theorem s_lneg  (A : AtF g j p l e Rm s₀ m args below meth cd Z op Q H locs ls L S sh c s σ) (hd : decode (bytesN j) pc = .ok (.lneg, 1))  (h : wpI SemX SemX j pc L S sh c s σ Q (.lneg)) : W p l e Rm s₀ m args below meth cd H locs c s Z (F0 m pc ls (S.map (mkV g))) := by
  simp only [wpI] at h
  split at h
  · rename_i a S'
    have r := A.rS
    refine lv_lneg A.1.1 A.1.2.1 hd ?_
    rw [m_neg]
    exact h _ _ _ _ _ _ _ _ _ _ _ _ _ _ _ _ (A.stk (rc (w64_in _) (rt r)))
  · exact h.elim
theorem s_i2l  (A : AtF g j p l e Rm s₀ m args below meth cd Z op Q H locs ls L S sh c s σ) (hd : decode (bytesN j) pc = .ok (.i2l, 1))  (h : wpI SemX SemX j pc L S sh c s σ Q (.i2l)) : W p l e Rm s₀ m args below meth cd H locs c s Z (F0 m pc ls (S.map (mkV g))) := by
  simp only [wpI] at h
  split at h
  · rename_i a S'
    have r := A.rS
    exact lv_i2l A.1.1 A.1.2.1 hd (n_l (rh r)) (h _ _ _ _ _ _ _ _ _ _ _ _ _ _ _ _ (A.stk (rc (in64_32 (rh r)) (rt r))))
  · exact h.elim
theorem s_l2i  (A : AtF g j p l e Rm s₀ m args below meth cd Z op Q H locs ls L S sh c s σ) (hd : decode (bytesN j) pc = .ok (.l2i, 1))  (h : wpI SemX SemX j pc L S sh c s σ Q (.l2i)) : W p l e Rm s₀ m args below meth cd H locs c s Z (F0 m pc ls (S.map (mkV g))) := by
  simp only [wpI] at h
  split at h
  · rename_i a S'
    have r := A.rS
    exact lv_l2i A.1.1 A.1.2.1 hd (m_i a) (h _ _ _ _ _ _ _ _ _ _ _ _ _ _ _ _ (A.stk (rc (w32_in _) (rt r))))
  · exact h.elim
theorem s_i2b  (A : AtF g j p l e Rm s₀ m args below meth cd Z op Q H locs ls L S sh c s σ) (hd : decode (bytesN j) pc = .ok (.i2b, 1))  (h : wpI SemX SemX j pc L S sh c s σ Q (.i2b)) : W p l e Rm s₀ m args below meth cd H locs c s Z (F0 m pc ls (S.map (mkV g))) := by
  simp only [wpI] at h
  split at h
  · rename_i a S'
    have r := A.rS
    exact lv_i2b A.1.1 A.1.2.1 hd (n_b a) (h _ _ _ _ _ _ _ _ _ _ _ _ _ _ _ _ (A.stk (rc (by have := w8_in a; show -2147483648 ≤ w8 a ∧ w8 a < 2147483648; omega) (rt r))))
  · exact h.elim
theorem s_lcmp  (A : AtF g j p l e Rm s₀ m args below meth cd Z op Q H locs ls L S sh c s σ) (hd : decode (bytesN j) pc = .ok (.lcmp, 1))  (h : wpI SemX SemX j pc L S sh c s σ Q (.lcmp)) : W p l e Rm s₀ m args below meth cd H locs c s Z (F0 m pc ls (S.map (mkV g))) := by
  simp only [wpI] at h
  split at h
  · rename_i b a S'
    have r := A.rS
    have ra : in64 a := rh (rt r)
    have rb : in64 b := rh r
    refine W.lcmp A.1.1 A.1.2.1 hd ?_
    rw [lcmp_eq ra rb]
    by_cases h1 : a < b
    · rw [if_pos h1]
      exact h.1 h1 _ _ _ _ _ _ _ _ _ _ _ _ _ _ _ _ (A.stk (rc (And.intro (by decide) (by decide)) (rt (rt r))))
    · rw [if_neg h1]
      by_cases h2 : a = b
      · rw [if_pos h2]
        exact h.2.1 h2 _ _ _ _ _ _ _ _ _ _ _ _ _ _ _ _ (A.stk (rc (And.intro (by decide) (by decide)) (rt (rt r))))
      · rw [if_neg h2]
        exact h.2.2 (by omega) _ _ _ _ _ _ _ _ _ _ _ _ _ _ _ _ (A.stk (rc (And.intro (by decide) (by decide)) (rt (rt r))))
  · exact h.elim
theorem s_dup  (A : AtF g j p l e Rm s₀ m args below meth cd Z op Q H locs ls L S sh c s σ) (hd : decode (bytesN j) pc = .ok (.dup, 1))  (h : wpI SemX SemX j pc L S sh c s σ Q (.dup)) : W p l e Rm s₀ m args below meth cd H locs c s Z (F0 m pc ls (S.map (mkV g))) := by
  simp only [wpI] at h
  split at h
  · rename_i a S'
    exact lv_dup A.1.1 A.1.2.1 hd rfl (h _ _ _ _ _ _ _ _ _ _ _ _ _ _ _ _ (A.stk (rc (rh A.rS) A.rS)))
  · rename_i a S'
    exact lv_dup A.1.1 A.1.2.1 hd rfl (h _ _ _ _ _ _ _ _ _ _ _ _ _ _ _ _ (A.stk (rc (rh A.rS) A.rS)))
  · exact h.elim
theorem s_dup2  (A : AtF g j p l e Rm s₀ m args below meth cd Z op Q H locs ls L S sh c s σ) (hd : decode (bytesN j) pc = .ok (.dup2, 1))  (h : wpI SemX SemX j pc L S sh c s σ Q (.dup2)) : W p l e Rm s₀ m args below meth cd H locs c s Z (F0 m pc ls (S.map (mkV g))) := by
  simp only [wpI] at h
  split at h
  · rename_i b a S'
    exact lv_dup2_11 A.1.1 A.1.2.1 hd rfl rfl (h _ _ _ _ _ _ _ _ _ _ _ _ _ _ _ _ (A.stk (rc (rh A.rS) (rc (rh (rt A.rS)) A.rS))))
  · exact h.elim
theorem s_if_eq {off : Int} (A : AtF g j p l e Rm s₀ m args below meth cd Z op Q H locs ls L S sh c s σ) (hd : decode (bytesN j) pc = .ok (.ifCond .eq off, 3)) (hc : jOK pc off = true) (h : wpI SemX SemX j pc L S sh c s σ Q (.ifCond .eq off)) : W p l e Rm s₀ m args below meth cd H locs c s Z (F0 m pc ls (S.map (mkV g))) := by
  simp only [wpI, cndP] at h
  split at h
  · rename_i a S'
    have r := A.rS
    exact lv_if_eq (tgt := jmp pc off) A.1.1 A.1.2.1 hd (jmp_eq hc) (fun q => h.1 ((n_eq (rh r) in32_0).mp q) _ _ _ _ _ _ _ _ _ _ _ _ _ _ _ _ (A.stk (rt r))) (fun q => h.2 (fun w => q ((n_eq (rh r) in32_0).mpr w)) _ _ _ _ _ _ _ _ _ _ _ _ _ _ _ _ (A.stk (rt r)))
  · exact h.elim
theorem s_if_ne {off : Int} (A : AtF g j p l e Rm s₀ m args below meth cd Z op Q H locs ls L S sh c s σ) (hd : decode (bytesN j) pc = .ok (.ifCond .ne off, 3)) (hc : jOK pc off = true) (h : wpI SemX SemX j pc L S sh c s σ Q (.ifCond .ne off)) : W p l e Rm s₀ m args below meth cd H locs c s Z (F0 m pc ls (S.map (mkV g))) := by
  simp only [wpI, cndP] at h
  split at h
  · rename_i a S'
    have r := A.rS
    exact lv_if_ne (tgt := jmp pc off) A.1.1 A.1.2.1 hd (jmp_eq hc) (fun q => h.1 (fun w => q ((n_eq (rh r) in32_0).mpr w)) _ _ _ _ _ _ _ _ _ _ _ _ _ _ _ _ (A.stk (rt r))) (fun q => h.2 (fun w => w ((n_eq (rh r) in32_0).mp q)) _ _ _ _ _ _ _ _ _ _ _ _ _ _ _ _ (A.stk (rt r)))
  · exact h.elim
theorem s_if_lt {off : Int} (A : AtF g j p l e Rm s₀ m args below meth cd Z op Q H locs ls L S sh c s σ) (hd : decode (bytesN j) pc = .ok (.ifCond .lt off, 3)) (hc : jOK pc off = true) (h : wpI SemX SemX j pc L S sh c s σ Q (.ifCond .lt off)) : W p l e Rm s₀ m args below meth cd H locs c s Z (F0 m pc ls (S.map (mkV g))) := by
  simp only [wpI, cndP] at h
  split at h
  · rename_i a S'
    have r := A.rS
    exact lv_if_lt (tgt := jmp pc off) A.1.1 A.1.2.1 hd (jmp_eq hc) (fun q => h.1 ((n_lt (rh r) in32_0).mp q) _ _ _ _ _ _ _ _ _ _ _ _ _ _ _ _ (A.stk (rt r))) (fun q => h.2 (fun w => q ((n_lt (rh r) in32_0).mpr w)) _ _ _ _ _ _ _ _ _ _ _ _ _ _ _ _ (A.stk (rt r)))
  · exact h.elim
theorem s_if_ge {off : Int} (A : AtF g j p l e Rm s₀ m args below meth cd Z op Q H locs ls L S sh c s σ) (hd : decode (bytesN j) pc = .ok (.ifCond .ge off, 3)) (hc : jOK pc off = true) (h : wpI SemX SemX j pc L S sh c s σ Q (.ifCond .ge off)) : W p l e Rm s₀ m args below meth cd H locs c s Z (F0 m pc ls (S.map (mkV g))) := by
  simp only [wpI, cndP] at h
  split at h
  · rename_i a S'
    have r := A.rS
    exact lv_if_ge (tgt := jmp pc off) A.1.1 A.1.2.1 hd (jmp_eq hc) (fun q => h.1 ((n_le in32_0 (rh r)).mp q) _ _ _ _ _ _ _ _ _ _ _ _ _ _ _ _ (A.stk (rt r))) (fun q => h.2 (fun w => q ((n_le in32_0 (rh r)).mpr w)) _ _ _ _ _ _ _ _ _ _ _ _ _ _ _ _ (A.stk (rt r)))
  · exact h.elim
theorem s_if_gt {off : Int} (A : AtF g j p l e Rm s₀ m args below meth cd Z op Q H locs ls L S sh c s σ) (hd : decode (bytesN j) pc = .ok (.ifCond .gt off, 3)) (hc : jOK pc off = true) (h : wpI SemX SemX j pc L S sh c s σ Q (.ifCond .gt off)) : W p l e Rm s₀ m args below meth cd H locs c s Z (F0 m pc ls (S.map (mkV g))) := by
  simp only [wpI, cndP] at h
  split at h
  · rename_i a S'
    have r := A.rS
    exact lv_if_gt (tgt := jmp pc off) A.1.1 A.1.2.1 hd (jmp_eq hc) (fun q => h.1 ((n_lt in32_0 (rh r)).mp q) _ _ _ _ _ _ _ _ _ _ _ _ _ _ _ _ (A.stk (rt r))) (fun q => h.2 (fun w => q ((n_lt in32_0 (rh r)).mpr w)) _ _ _ _ _ _ _ _ _ _ _ _ _ _ _ _ (A.stk (rt r)))
  · exact h.elim
theorem s_if_le {off : Int} (A : AtF g j p l e Rm s₀ m args below meth cd Z op Q H locs ls L S sh c s σ) (hd : decode (bytesN j) pc = .ok (.ifCond .le off, 3)) (hc : jOK pc off = true) (h : wpI SemX SemX j pc L S sh c s σ Q (.ifCond .le off)) : W p l e Rm s₀ m args below meth cd H locs c s Z (F0 m pc ls (S.map (mkV g))) := by
  simp only [wpI, cndP] at h
  split at h
  · rename_i a S'
    have r := A.rS
    exact lv_if_le (tgt := jmp pc off) A.1.1 A.1.2.1 hd (jmp_eq hc) (fun q => h.1 ((n_le (rh r) in32_0).mp q) _ _ _ _ _ _ _ _ _ _ _ _ _ _ _ _ (A.stk (rt r))) (fun q => h.2 (fun w => q ((n_le (rh r) in32_0).mpr w)) _ _ _ _ _ _ _ _ _ _ _ _ _ _ _ _ (A.stk (rt r)))
  · exact h.elim
theorem s_icmp_eq {off : Int} (A : AtF g j p l e Rm s₀ m args below meth cd Z op Q H locs ls L S sh c s σ) (hd : decode (bytesN j) pc = .ok (.if_icmp .eq off, 3)) (hc : jOK pc off = true) (h : wpI SemX SemX j pc L S sh c s σ Q (.if_icmp .eq off)) : W p l e Rm s₀ m args below meth cd H locs c s Z (F0 m pc ls (S.map (mkV g))) := by
  simp only [wpI, cndP] at h
  split at h
  · rename_i b a S'
    have r := A.rS
    exact lv_icmp_eq (tgt := jmp pc off) A.1.1 A.1.2.1 hd (jmp_eq hc) (fun q => h.1 ((n_eq (rh (rt r)) (rh r)).mp q) _ _ _ _ _ _ _ _ _ _ _ _ _ _ _ _ (A.stk (rt (rt r)))) (fun q => h.2 (fun w => q ((n_eq (rh (rt r)) (rh r)).mpr w)) _ _ _ _ _ _ _ _ _ _ _ _ _ _ _ _ (A.stk (rt (rt r))))
  · exact h.elim
theorem s_icmp_ne {off : Int} (A : AtF g j p l e Rm s₀ m args below meth cd Z op Q H locs ls L S sh c s σ) (hd : decode (bytesN j) pc = .ok (.if_icmp .ne off, 3)) (hc : jOK pc off = true) (h : wpI SemX SemX j pc L S sh c s σ Q (.if_icmp .ne off)) : W p l e Rm s₀ m args below meth cd H locs c s Z (F0 m pc ls (S.map (mkV g))) := by
  simp only [wpI, cndP] at h
  split at h
  · rename_i b a S'
    have r := A.rS
    exact lv_icmp_ne (tgt := jmp pc off) A.1.1 A.1.2.1 hd (jmp_eq hc) (fun q => h.1 (fun w => q ((n_eq (rh (rt r)) (rh r)).mpr w)) _ _ _ _ _ _ _ _ _ _ _ _ _ _ _ _ (A.stk (rt (rt r)))) (fun q => h.2 (fun w => w ((n_eq (rh (rt r)) (rh r)).mp q)) _ _ _ _ _ _ _ _ _ _ _ _ _ _ _ _ (A.stk (rt (rt r))))
  · exact h.elim
theorem s_icmp_lt {off : Int} (A : AtF g j p l e Rm s₀ m args below meth cd Z op Q H locs ls L S sh c s σ) (hd : decode (bytesN j) pc = .ok (.if_icmp .lt off, 3)) (hc : jOK pc off = true) (h : wpI SemX SemX j pc L S sh c s σ Q (.if_icmp .lt off)) : W p l e Rm s₀ m args below meth cd H locs c s Z (F0 m pc ls (S.map (mkV g))) := by
  simp only [wpI, cndP] at h
  split at h
  · rename_i b a S'
    have r := A.rS
    exact lv_icmp_lt (tgt := jmp pc off) A.1.1 A.1.2.1 hd (jmp_eq hc) (fun q => h.1 ((n_lt (rh (rt r)) (rh r)).mp q) _ _ _ _ _ _ _ _ _ _ _ _ _ _ _ _ (A.stk (rt (rt r)))) (fun q => h.2 (fun w => q ((n_lt (rh (rt r)) (rh r)).mpr w)) _ _ _ _ _ _ _ _ _ _ _ _ _ _ _ _ (A.stk (rt (rt r))))
  · exact h.elim
theorem s_icmp_ge {off : Int} (A : AtF g j p l e Rm s₀ m args below meth cd Z op Q H locs ls L S sh c s σ) (hd : decode (bytesN j) pc = .ok (.if_icmp .ge off, 3)) (hc : jOK pc off = true) (h : wpI SemX SemX j pc L S sh c s σ Q (.if_icmp .ge off)) : W p l e Rm s₀ m args below meth cd H locs c s Z (F0 m pc ls (S.map (mkV g))) := by
  simp only [wpI, cndP] at h
  split at h
  · rename_i b a S'
    have r := A.rS
    exact lv_icmp_ge (tgt := jmp pc off) A.1.1 A.1.2.1 hd (jmp_eq hc) (fun q => h.1 ((n_le (rh r) (rh (rt r))).mp q) _ _ _ _ _ _ _ _ _ _ _ _ _ _ _ _ (A.stk (rt (rt r)))) (fun q => h.2 (fun w => q ((n_le (rh r) (rh (rt r))).mpr w)) _ _ _ _ _ _ _ _ _ _ _ _ _ _ _ _ (A.stk (rt (rt r))))
  · exact h.elim
theorem s_icmp_gt {off : Int} (A : AtF g j p l e Rm s₀ m args below meth cd Z op Q H locs ls L S sh c s σ) (hd : decode (bytesN j) pc = .ok (.if_icmp .gt off, 3)) (hc : jOK pc off = true) (h : wpI SemX SemX j pc L S sh c s σ Q (.if_icmp .gt off)) : W p l e Rm s₀ m args below meth cd H locs c s Z (F0 m pc ls (S.map (mkV g))) := by
  simp only [wpI, cndP] at h
  split at h
  · rename_i b a S'
    have r := A.rS
    exact lv_icmp_gt (tgt := jmp pc off) A.1.1 A.1.2.1 hd (jmp_eq hc) (fun q => h.1 ((n_lt (rh r) (rh (rt r))).mp q) _ _ _ _ _ _ _ _ _ _ _ _ _ _ _ _ (A.stk (rt (rt r)))) (fun q => h.2 (fun w => q ((n_lt (rh r) (rh (rt r))).mpr w)) _ _ _ _ _ _ _ _ _ _ _ _ _ _ _ _ (A.stk (rt (rt r))))
  · exact h.elim
theorem s_icmp_le {off : Int} (A : AtF g j p l e Rm s₀ m args below meth cd Z op Q H locs ls L S sh c s σ) (hd : decode (bytesN j) pc = .ok (.if_icmp .le off, 3)) (hc : jOK pc off = true) (h : wpI SemX SemX j pc L S sh c s σ Q (.if_icmp .le off)) : W p l e Rm s₀ m args below meth cd H locs c s Z (F0 m pc ls (S.map (mkV g))) := by
  simp only [wpI, cndP] at h
  split at h
  · rename_i b a S'
    have r := A.rS
    exact lv_icmp_le (tgt := jmp pc off) A.1.1 A.1.2.1 hd (jmp_eq hc) (fun q => h.1 ((n_le (rh (rt r)) (rh r)).mp q) _ _ _ _ _ _ _ _ _ _ _ _ _ _ _ _ (A.stk (rt (rt r)))) (fun q => h.2 (fun w => q ((n_le (rh (rt r)) (rh r)).mpr w)) _ _ _ _ _ _ _ _ _ _ _ _ _ _ _ _ (A.stk (rt (rt r))))
  · exact h.elim
theorem s_goto {off : Int} (A : AtF g j p l e Rm s₀ m args below meth cd Z op Q H locs ls L S sh c s σ) (hd : decode (bytesN j) pc = .ok (.goto off, 3)) (hc : jOK pc off = true) (h : wpI SemX SemX j pc L S sh c s σ Q (.goto off)) : W p l e Rm s₀ m args below meth cd H locs c s Z (F0 m pc ls (S.map (mkV g))) :=
  lv_goto A.1.1 A.1.2.1 hd (jmp_eq hc) (h _ _ _ _ _ _ _ _ _ _ _ _ _ _ _ _ A)
end SND
