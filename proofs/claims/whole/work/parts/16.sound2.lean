/-! SOUNDNESS: switches, statics, fields, arrays -/
section SND2
variable {g : GD} {j pc : Nat} {p : Program} {l : Launch} {e : Env} {Rm : Room} {s₀ : State} {m : MethodId} {args : Array Value} {below : List Frame} {meth : Method} {cd : Code} {Z : State → Prop} {op : Bool} {H : Heap} {locs : List Loc} {ls : Array Slot} {L : List (Option PV)} {S : List PV} {sh : Sh} {c s : Nat} {σ : Mm} {Q : PQ}
theorem tsw_at {a : Int} {k : Nat → Prop} : ∀ (os : List Int) (lo : Int), tsw a pc k lo os → ∀ (i : Nat) (o : Int), os[i]? = some o → a = lo + i → k (jmp pc o) := by
  intro os
  induction os with
  | nil => intro lo _ i o h; cases h
  | cons x os ih =>
    intro lo h i o hi ha
    cases i with
    | zero =>
      have hx : x = o := Option.some.inj hi
      subst hx
      exact h.1 (by simpa using ha)
    | succ i => exact ih (lo + 1) h.2 i o hi (by omega)
theorem s_tsw {d lo hi : Int} {os : Array Int} {n : Nat} (A : AtF g j p l e Rm s₀ m args below meth cd Z op Q H locs ls L S sh c s σ) (hd : decode (bytesN j) pc = .ok (.tableswitch d lo hi os, n)) (hc : ichk j pc (.tableswitch d lo hi os) = true) (h : wpI SemX SemX j pc L S sh c s σ Q (.tableswitch d lo hi os)) : W p l e Rm s₀ m args below meth cd H locs c s Z (F0 m pc ls (S.map (mkV g))) := by
  simp only [wpI] at h
  simp only [ichk, Bool.and_eq_true, decide_eq_true_eq] at hc
  obtain ⟨⟨⟨hc1, hc2⟩, hc3⟩, hc4⟩ := hc
  split at h
  · rename_i a S'
    have r := A.rS
    have ra : in32 a := rh r
    by_cases ho : a < lo ∨ hi < a
    · exact lv_tableOut (tgt := jmp pc d) A.1.1 A.1.2.1 hd (by rw [i32_to ra]; exact ho) (jmp_eq hc1) (h.1 ho _ _ _ _ _ _ _ _ _ _ _ _ _ _ _ _ (A.stk (rt r)))
    · have h1 : ¬ a < lo := fun q => ho (Or.inl q)
      have h2 : ¬ hi < a := fun q => ho (Or.inr q)
      have hlt : (a - lo).toNat < os.toList.length := by
        rw [Array.length_toList]; omega
      have hg : os.toList[(a - lo).toNat]? = some os.toList[(a - lo).toNat] := List.getElem?_eq_getElem hlt
      refine lv_tableIn (off := os.toList[(a - lo).toNat]) (tgt := jmp pc os.toList[(a - lo).toNat]) A.1.1 A.1.2.1 hd (by rw [i32_to ra]; exact h1) (by rw [i32_to ra]; exact h2) (by rw [i32_to ra, ← Array.getElem?_toList]; exact hg) (jmp_eq (List.all_eq_true.mp hc2 _ (List.getElem_mem hlt))) ?_
      exact tsw_at _ _ h.2 _ _ hg (by omega) _ _ _ _ _ _ _ _ _ _ _ _ _ _ _ _ (A.stk (rt r))
  · exact h.elim
theorem s_getstatic {i : Nat} (A : AtF g j p l e Rm s₀ m args below meth cd Z op Q H locs ls L S sh c s σ) (hd : decode (bytesN j) pc = .ok (.getstatic i, 3)) (h : wpI SemX SemX j pc L S sh c s σ Q (.getstatic i)) : W p l e Rm s₀ m args below meth cd H locs c s Z (F0 m pc ls (S.map (mkV g))) := by
  simp only [wpI] at h
  split at h
  · rename_i ho
    have hown : s₀.vm.findClass "CushionCourt$Dealing" = some m.cls := by have := A.1.2.2.2.1; rw [ho] at this; exact this
    have hl : Cond.fieldLink "CushionCourt$Dealing" 31 "CushionCourt$Dealing" "POWERS" "[I" ∈ GWl := gwAt_mem (i := 1058) (by decide +kernel)
    exact va_gets A.1.1 A.1.2.1 A.1.2.2.2.2.2.2.2.2.2.2.2.1 A.2.2.2.2.2.2.1 hown (A.1.2.2.2.2.1 _ hl) (fun _ q => q) hd (h _ _ _ _ _ _ _ _ _ _ _ _ _ _ _ _ (A.stk (rc trivial A.rS)))
  · exact h.elim
/-- a cell of the world by its number -/
theorem World.obj {k ci : Nat} {rs : List (Option Nat)} (w : World g sh σ H) (h : sh[k]? = some (.inr ci, rs)) : ∃ k', k = k' + 3 ∧ k' < sh.length - 3 ∧ (wlE (gBase g) (sh.length - 3) (cellE g sh σ))[k']? = some (adr g k, .inr (ci, objV g σ rs k ci)) ∧ rs.length = (ftyL ci).length ∧ ci < 11 := by
  obtain ⟨w1, ⟨o1, ⟨f0, o2⟩, ⟨f1, o3⟩, ⟨f2, o4⟩, o5, o6, o7⟩, w3⟩ := w
  have hk : k < sh.length := (List.getElem?_eq_some_iff.mp h).1
  match k, h, hk with
  | 0, h, _ => rw [o2] at h; cases h
  | 1, h, _ => rw [o3] at h; cases h
  | 2, h, _ => rw [o4] at h; cases h
  | k' + 3, h, hk =>
    refine ⟨k', rfl, by omega, ?_, o7 _ _ _ h⟩
    rw [wlE_get (by omega)]
    simp only [cellE, h]
    rfl
theorem World.arr {k ty n : Nat} {rs : List (Option Nat)} (w : World g sh σ H) (h : sh[k]? = some (.inl (ty, n), rs)) (ht : ty ≤ 3) : ∃ k', k = k' + 3 ∧ k' < sh.length - 3 ∧ (wlE (gBase g) (sh.length - 3) (cellE g sh σ))[k']? = some (adr g k, arrE g σ k ty n) ∧ n < 2147483648 := by
  obtain ⟨w1, ⟨o1, ⟨f0, o2⟩, ⟨f1, o3⟩, ⟨f2, o4⟩, o5, o6, o7⟩, w3⟩ := w
  have hk : k < sh.length := (List.getElem?_eq_some_iff.mp h).1
  match k, h, hk with
  | 0, h, _ => rw [o2] at h; cases h; omega
  | 1, h, _ => rw [o3] at h; cases h; omega
  | 2, h, _ => rw [o4] at h; cases h; omega
  | k' + 3, h, hk =>
    refine ⟨k', rfl, by omega, ?_, o6 _ _ _ _ h⟩
    rw [wlE_get (by omega)]
    simp only [cellE, h]
    rfl
theorem objV_get {rs : List (Option Nat)} {k ci sl ty : Nat} (h : (ftyL ci)[sl]? = some ty) : (objV g σ rs k ci)[sl]? = some (fldV g σ rs k sl ty) := by
  unfold objV
  rw [List.getElem?_map, List.getElem?_zipIdx, h]
  simp
theorem objV_len {rs : List (Option Nat)} {k ci : Nat} : (objV g σ rs k ci).length = (ftyL ci).length := by
  simp [objV]
/-- what the check of a field's link says -/
theorem field_ok {o i ci sl ty : Nat} (h : poolAt t_field o i = some (ci, sl, ty)) : ∃ C T N, vwCl[ci]? = some (C, T, N) ∧ sl < N ∧ Cond.fieldLink (ownS o) i (T sl).1 (T sl).2.1 (T sl).2.2.1 ∈ GWl ∧ (T sl).1 = C ∧ ClsOK ci C T N ∧ (ftyL ci)[sl]? = some ty ∧ (ty = 0 → parseFieldDescriptor (T sl).2.2.1 = some .int) ∧ (ty = 1 → parseFieldDescriptor (T sl).2.2.1 = some .boolean) ∧ (ty = 2 → parseFieldDescriptor (T sl).2.2.1 = some .long) ∧ (ty = 3 → ∃ t, parseFieldDescriptor (T sl).2.2.1 = some t ∧ ((∃ a, t = .array a) ∨ ∃ n, t = .object n)) := by
  have hf := fchk_all h
  unfold fchk at hf
  rw [h] at hf
  simp only at hf
  split at hf
  · rename_i C T N hv
    simp only [Bool.and_eq_true, decide_eq_true_eq] at hf
    obtain ⟨⟨⟨h1, h2⟩, h3⟩, h4⟩ := hf
    obtain ⟨hc, -⟩ := cls_ok hv
    have hc' := hc
    obtain ⟨tyf, c1, c2, c3, c4, c5, c6⟩ := hc
    have h5 := c2 sl h1
    rw [h5] at h3
    have h3 : tyC (tyf sl) = ty := Option.some.inj h3
    refine ⟨C, T, N, hv, h1, by rw [h4]; exact gwAt_mem h2, h4, hc', by rw [c5 sl h1, h3], ?_, ?_, ?_, ?_⟩ <;> intro ht <;> rw [h5] <;> rw [ht] at h3 <;> rcases c6 sl h1 with q | q | q | ⟨t, q | ⟨n, q⟩⟩ <;> rw [q] at h3 ⊢ <;> first | rfl | (exfalso; simp [tyC] at h3; done) | (exact ⟨_, rfl, Or.inl ⟨_, rfl⟩⟩) | (exact ⟨_, rfl, Or.inr ⟨_, rfl⟩⟩)
  · cases hf
theorem s_getfield {i : Nat} (A : AtF g j p l e Rm s₀ m args below meth cd Z op Q H locs ls L S sh c s σ) (hd : decode (bytesN j) pc = .ok (.getfield i, 3)) (h : wpI SemX SemX j pc L S sh c s σ Q (.getfield i)) : W p l e Rm s₀ m args below meth cd H locs c s Z (F0 m pc ls (S.map (mkV g))) := by
  simp only [wpI] at h
  split at h
  · rename_i ci sl ty hp
    split at h
    · rename_i k S'
      split at h
      · rename_i cj rs hk
        split at h
        · rename_i hb
          have hb := Nat.eq_of_beq_eq_true hb
          subst hb
          obtain ⟨C, T, N, f1, f2, f3, f4, ⟨tyf, c1, c2, c3, c4, c5, c6⟩, f6, f7, f8, f9, f10⟩ := field_ok hp
          have wo := A.2.2.2.2.2.1
          obtain ⟨k', e1, e2, e3, e4, e5⟩ := World.obj wo hk
          have r := A.rS
          have go : ∀ {v : PV}, rngV v → fldV g σ rs k sl ty = mkV g v → SemX j (pc + 3) L (v :: S') sh c s σ Q → W p l e Rm s₀ m args below meth cd H locs c s Z (F0 m pc ls (((.inr (.inr k) : PV) :: S').map (mkV g))) := by
            intro v hv he hx
            exact va_get (D := gDD g) (ci := ci) (v := mkV g v) (C := C) (T := T) (N := N) A.1.1 A.1.2.1 A.1.2.2.2.2.1 c1 A.1.2.2.2.1 A.1.2.2.2.2.2.2.2.2.2.2.1 wo.1 k' e3 f1 sl f2 (A.1.2.2.2.2.1 _ f3) (fun _ q => q) (by rw [objV_get f6, he]) hd (hx _ _ _ _ _ _ _ _ _ _ _ _ _ _ _ _ (A.stk (rc hv (rt r))))
          split at h
          · split at h
            · rename_i r' hr
              exact go (v := .inr (.inr r')) trivial (by simp only [fldV, hr]; rfl) h
            · exact h.elim
          · exact go (v := .inr (.inl (gl σ k sl))) (wo.2.2.2.2.2.2 _ _) rfl h
          · rename_i n3 n2
            refine go (v := .inl (gi σ k sl)) (wo.2.2.2.2.2.1 _ _) ?_ h
            unfold fldV
            split
            · exact absurd rfl n3
            · exact absurd rfl n2
            · rfl
        · exact h.elim
      · exact h.elim
    · exact h.elim
  · exact h.elim
theorem s_lsw {d : Int} {ps : Array (Int × Int)} {n : Nat} (A : AtF g j p l e Rm s₀ m args below meth cd Z op Q H locs ls L S sh c s σ) (hd : decode (bytesN j) pc = .ok (.lookupswitch d ps, n)) (hc : ichk j pc (.lookupswitch d ps) = true) (h : wpI SemX SemX j pc L S sh c s σ Q (.lookupswitch d ps)) : W p l e Rm s₀ m args below meth cd H locs c s Z (F0 m pc ls (S.map (mkV g))) := by
  simp only [wpI] at h
  simp only [ichk, Bool.and_eq_true] at hc
  obtain ⟨⟨hc1, hc2⟩, hc3⟩ := hc
  split at h
  · rename_i a S'
    have r := A.rS
    have ra : in32 a := rh r
    have key : ∀ (qs : List (Int × Int)) {k : Nat → Prop}, qs.all (fun q => jOK pc q.2) = true → lsw a pc k d qs → jOK pc (Op.lookupswitch.offset qs d a) = true ∧ k (jmp pc (Op.lookupswitch.offset qs d a)) := by
      intro qs
      induction qs with
      | nil => intro k _ h; exact ⟨hc1, h⟩
      | cons q qs ih =>
        intro k hq h
        obtain ⟨x, o⟩ := q
        simp only [List.all_cons, Bool.and_eq_true] at hq
        rw [Op.lookupswitch.offset_cons]
        by_cases hx : x = a
        · rw [if_pos hx]; exact ⟨hq.1, h.1 hx.symm⟩
        · rw [if_neg hx]; exact ih hq.2 (h.2 (fun q => hx q.symm))
    obtain ⟨k1, k2⟩ := key _ hc2 h
    exact lv_lookup (off := Op.lookupswitch.offset ps.toList d a) (tgt := jmp pc (Op.lookupswitch.offset ps.toList d a)) A.1.1 A.1.2.1 hd hc3 (by rw [i32_to ra]) (jmp_eq k1) (k2 _ _ _ _ _ _ _ _ _ _ _ _ _ _ _ _ (A.stk (rt r)))
  · exact h.elim
/-- the world behind a write into the cell k -/
theorem World.upd {k k' : Nat} {sh' : Sh} {σ' : Mm} {H1 : Heap} (hk : k = k' + 3) (hl : k' < sh.length - 3) (hsh : sh'.length = sh.length) (hok : ShOK g sh') (hm : MemOK g σ') (hcell : ∀ x, x ≠ k → 3 ≤ x → cellE g sh' σ' x = cellE g sh σ x)
    (hP : va_P (gDD g) vwCl ((wlE (gBase g) (sh.length - 3) (cellE g sh σ)).set k' (gBase g + k', cellE g sh' σ' k)) H1) : World g sh' σ' H1 := by
  refine ⟨?_, hok, hm⟩
  rw [hsh]
  have e : (wlE (gBase g) (sh.length - 3) (cellE g sh σ)).set k' (gBase g + k', cellE g sh' σ' k) = wlE (gBase g) (sh.length - 3) (cellE g sh' σ') := by
    have h1 := wlE_set (b := gBase g) (E := cellE g sh σ) (E' := fun x => if x < 3 then cellE g sh σ x else cellE g sh' σ' x) hl (fun x hx => by
      show (if x < 3 then cellE g sh σ x else cellE g sh' σ' x) = cellE g sh σ x
      by_cases h3 : x < 3
      · rw [if_pos h3]
      · rw [if_neg h3, hcell x (by omega) (by omega)])
    simp only [show ¬ (k' + 3 < 3) by omega, if_false] at h1
    subst hk
    rw [h1]
    exact wlE_congr (fun x _ => (if_neg (by omega)))
  rw [← e]
  exact hP
end SND2
