/-! SOUNDNESS: writes into fields and arrays -/
section SND3
variable {g : GD} {j pc : Nat} {p : Program} {l : Launch} {e : Env} {Rm : Room} {s₀ : State} {m : MethodId} {args : Array Value} {below : List Frame} {meth : Method} {cd : Code} {Z : State → Prop} {op : Bool} {H : Heap} {locs : List Loc} {ls : Array Slot} {L : List (Option PV)} {S : List PV} {sh : Sh} {c s : Nat} {σ : Mm} {Q : PQ}
theorem cellE_congr {σ' : Mm} {x : Nat} (h1 : ∀ b, σ'.1 x b = σ.1 x b) (h2 : ∀ b, σ'.2 x b = σ.2 x b) : cellE g sh σ' x = cellE g sh σ x := by
  have e1 : σ'.1 x = σ.1 x := funext h1
  have e2 : σ'.2 x = σ.2 x := funext h2
  unfold cellE
  split
  · simp only [objV, fldV, e1, e2]
  · simp only [arrE, e1, e2]
  · rfl
theorem mem_si {k i : Nat} {v : Int} (h : MemOK g σ) (hk : 3 ≤ k) (hv : in32 v) : MemOK g (si σ k i v) := by
  obtain ⟨h1, h2, h3, h4, h5⟩ := h
  refine ⟨fun b hb => ?_, fun b hb => ?_, fun b hb => ?_, fun a b => ?_, h5⟩
  · show (if 0 = k ∧ b = i then v else σ.1 0 b) = _
    rw [if_neg (by omega)]; exact h1 b hb
  · show Int32.ofInt (if 1 = k ∧ b = i then v else σ.1 1 b) = _
    rw [if_neg (by omega)]; exact h2 b hb
  · show (if 2 = k ∧ b = i then v else σ.1 2 b) = _
    rw [if_neg (by omega)]; exact h3 b hb
  · show in32 (if a = k ∧ b = i then v else σ.1 a b)
    split
    · exact hv
    · exact h4 a b
theorem mem_sl {k i : Nat} {v : Int} (h : MemOK g σ) (hv : in64 v) : MemOK g (sl σ k i v) := by
  obtain ⟨h1, h2, h3, h4, h5⟩ := h
  refine ⟨h1, h2, h3, h4, fun a b => ?_⟩
  show in64 (if a = k ∧ b = i then v else σ.2 a b)
  split
  · exact hv
  · exact h5 a b
theorem si_ne {k i x : Nat} {v : Int} (h : x ≠ k) : ∀ b, (si σ k i v).1 x b = σ.1 x b := fun b => by
  show (if x = k ∧ b = i then v else σ.1 x b) = _
  rw [if_neg (fun q => h q.1)]
theorem sl_ne {k i x : Nat} {v : Int} (h : x ≠ k) : ∀ b, (sl σ k i v).2 x b = σ.2 x b := fun b => by
  show (if x = k ∧ b = i then v else σ.2 x b) = _
  rw [if_neg (fun q => h q.1)]
theorem objV_set {σ' : Mm} {rs rs' : List (Option Nat)} {k ci sl ty : Nat} {v : Value} (hty : (ftyL ci)[sl]? = some ty) (hv : fldV g σ' rs' k sl ty = v) (ho : ∀ b t, b ≠ sl → fldV g σ' rs' k b t = fldV g σ rs k b t) : (objV g σ rs k ci).set sl v = objV g σ' rs' k ci := by
  apply List.ext_getElem?
  intro b
  rw [List.getElem?_set]
  by_cases hb : sl = b
  · subst hb
    have hl : sl < (objV g σ rs k ci).length := by rw [objV_len]; exact (List.getElem?_eq_some_iff.mp hty).1
    rw [if_pos rfl, if_pos hl, objV_get hty, hv]
  · rw [if_neg hb]
    cases hq : (ftyL ci)[b]? with
    | none =>
      have hl := List.getElem?_eq_none_iff.mp hq
      rw [List.getElem?_eq_none (by rw [objV_len]; exact hl), List.getElem?_eq_none (by rw [objV_len]; exact hl)]
    | some t => rw [objV_get hq, objV_get hq, ho b t (fun q => hb q.symm)]
theorem AtF.mem {S' : List PV} {sh' : Sh} {σ' : Mm} {H1 : Heap} {locs1 : List Loc} (A : AtF g j p l e Rm s₀ m args below meth cd Z op Q H locs ls L S sh c s σ) (hS : ∀ v, v ∈ S' → rngV v) (w : World g sh' σ' H1) (hs : va_S (gA g) s₀.heap H1 locs1) (hl : sh'.length = sh.length) (ho : isOpen sh' = isOpen sh) : AtF g j p l e Rm s₀ m args below meth cd Z op Q H1 locs1 ls L S' sh' c s σ' :=
  ⟨A.1, A.2.1, A.2.2.1, A.2.2.2.1, hS, w, hs, A.2.2.2.2.2.2.2.1, A.2.2.2.2.2.2.2.2.1, by rw [hl, ho]; exact A.2.2.2.2.2.2.2.2.2⟩
theorem own_cls : ∀ ci, ci < 11 → (vwCl[ci]?).map (fun q => q.1) = some (ownS ci) := by decide +kernel
/-- a field is written -/
theorem put_any {i k ci sl ty : Nat} {rs : List (Option Nat)} {v : PV} {S' : List PV} {sh' : Sh} {σ' : Mm} (A : AtF g j p l e Rm s₀ m args below meth cd Z op Q H locs ls L (v :: .inr (.inr k) :: S') sh c s σ) (hd : decode (bytesN j) pc = .ok (.putfield i, 3)) (hc : ichk j pc (.putfield i) = true) (hp : poolAt t_field (ownN j) i = some (ci, sl, ty)) (hk : sh[k]? = some (.inr ci, rs))
    (hfit : ∀ t : FieldType, (ty = 0 → t = .int) → (ty = 1 → t = .boolean) → (ty = 2 → t = .long) → (ty = 3 → ((∃ a, t = .array a) ∨ ∃ n, t = .object n)) → narrow t (mkV g v) = mkV g v ∧ fits t (mkV g v) = true) (hty : ty ≤ 3)
    (hcell : cellE g sh' σ' k = .inr (ci, (objV g σ rs k ci).set sl (mkV g v))) (hoth : ∀ x, x ≠ k → 3 ≤ x → cellE g sh' σ' x = cellE g sh σ x) (hl : sh'.length = sh.length) (hop : isOpen sh' = isOpen sh) (hok : ShOK g sh') (hm : MemOK g σ')
    (h : SemX j (pc + 3) L S' sh' c s σ' Q) : W p l e Rm s₀ m args below meth cd H locs c s Z (F0 m pc ls ((v :: .inr (.inr k) :: S').map (mkV g))) := by
  obtain ⟨C, T, N, f1, f2, f3, f4, ⟨tyf, c1, c2, c3, c4, c5, c6⟩, f6, f7, f8, f9, f10⟩ := field_ok hp
  have wo := A.2.2.2.2.2.1
  have r := A.rS
  obtain ⟨k', e1, e2, e3, e4, e5⟩ := World.obj wo hk
  have hsl : sl < (objV g σ rs k ci).length := by rw [objV_len, c4]; exact f2
  have ht : ∃ t, parseFieldDescriptor (T sl).2.2.1 = some t ∧ narrow t (mkV g v) = mkV g v ∧ fits t (mkV g v) = true := by
    have h4 : ty = 0 ∨ ty = 1 ∨ ty = 2 ∨ ty = 3 := by omega
    rcases h4 with q | q | q | q
    · exact ⟨_, f7 q, hfit .int (fun _ => rfl) (by omega) (by omega) (by omega)⟩
    · exact ⟨_, f8 q, hfit .boolean (by omega) (fun _ => rfl) (by omega) (by omega)⟩
    · exact ⟨_, f9 q, hfit .long (by omega) (by omega) (fun _ => rfl) (by omega)⟩
    · obtain ⟨t, q1, q2⟩ := f10 q
      exact ⟨t, q1, hfit t (by omega) (by omega) (by omega) (fun _ => q2)⟩
  obtain ⟨t, ht1, ht2, ht3⟩ := ht
  have kk : ∀ (H1 : Heap) (locs1 : List Loc), va_P (gDD g) vwCl ((wlE (gBase g) (sh.length - 3) (cellE g sh σ)).set k' (adr g k, .inr (ci, (objV g σ rs k ci).set sl (mkV g v)))) H1 → va_D (gA g) ((wlE (gBase g) (sh.length - 3) (cellE g sh σ)).set k' (adr g k, .inr (ci, (objV g σ rs k ci).set sl (mkV g v)))) → va_S (gA g) s₀.heap H1 locs1 → W p l e Rm s₀ m args below meth cd H1 locs1 c s Z (F0 m (pc + 3) ls (S'.map (mkV g))) := by
    intro H1 locs1 q1 q2 q3
    subst e1
    exact h _ _ _ _ _ _ _ _ _ _ _ _ _ _ _ _ (A.mem (rt (rt r)) (World.upd rfl e2 hl hok hm hoth (by rw [hcell]; exact q1)) q3 hl hop)
  simp only [ichk, hp] at hc
  by_cases hfin : (T sl).2.2.2 = false
  · exact va_put (D := gDD g) (ci := ci) (v := mkV g v) (ty := t) (C := C) (T := T) (N := N) (ref := (T sl).1) A.1.1 A.1.2.1 A.1.2.2.2.2.1 c1 tyf c2 c3 A.1.2.2.2.1 A.1.2.2.2.2.2.2.2.2.2.2.1 wo.1 wlE_D A.2.2.2.2.2.2.1 k' e3 f1 sl f2 (A.1.2.2.2.2.1 _ f3) (fun _ q => q) hfin ht1 ht2 ht3 hsl hd kk
  · have hfin : (T sl).2.2.2 = true := by simpa using hfin
    have hf2 : finN ci sl = true := by unfold finN; rw [f1]; exact hfin
    simp only [hf2, Bool.not_true, Bool.false_or, Bool.and_eq_true, decide_eq_true_eq] at hc
    have ho : (T sl).1 = ownS (ownN j) := by
      have := own_cls ci e5
      rw [f1] at this
      rw [f4, hc.1]
      exact Option.some.inj this
    exact va_putF (D := gDD g) (ci := ci) (v := mkV g v) (ty := t) (C := C) (T := T) (N := N) (ref := (T sl).1) A.1.1 A.1.2.1 A.1.2.2.2.2.1 c1 tyf c2 c3 A.1.2.2.2.1 A.1.2.2.2.2.2.2.2.2.2.2.1 wo.1 wlE_D A.2.2.2.2.2.2.1 k' e3 f1 sl f2 (A.1.2.2.2.2.1 _ f3) (fun _ q => q) hfin (A.1.2.2.2.2.2.1 hc.2) ho ht1 ht2 ht3 hsl hd kk
theorem fld_ne {σ' : Mm} {rs rs' : List (Option Nat)} {k b t : Nat} (h1 : σ'.1 k b = σ.1 k b) (h2 : σ'.2 k b = σ.2 k b) (h3 : rs'[b]? = rs[b]?) : fldV g σ' rs' k b t = fldV g σ rs k b t := by
  unfold fldV
  rw [h1, h2, h3]
theorem set_open {k : Nat} {x : Kd × List (Option Nat)} (h3 : 3 ≤ k) : isOpen (sh.set k x) = isOpen sh := by
  match sh, k with
  | [], _ => rfl
  | (a, []) :: r, k + 1 => rfl
  | (a, _ :: _) :: r, k + 1 => rfl
  | a :: r, 0 => omega
theorem s_putfield {i : Nat} (A : AtF g j p l e Rm s₀ m args below meth cd Z op Q H locs ls L S sh c s σ) (hd : decode (bytesN j) pc = .ok (.putfield i, 3)) (hc : ichk j pc (.putfield i) = true) (h : wpI SemX SemX j pc L S sh c s σ Q (.putfield i)) : W p l e Rm s₀ m args below meth cd H locs c s Z (F0 m pc ls (S.map (mkV g))) := by
  simp only [wpI] at h
  split at h
  · rename_i ci st ty hp
    obtain ⟨C, T, N, f1, f2, f3, f4, ⟨tyf, c1, c2, c3, c4, c5, c6⟩, f6, f7, f8, f9, f10⟩ := field_ok hp
    have wo := A.2.2.2.2.2.1
    split at h
    · rename_i v k S'
      have rv : in32 v := rh A.rS
      split at h
      · rename_i cj rs hk
        split at h
        · rename_i hb
          have hb := Nat.eq_of_beq_eq_true hb
          subst hb
          obtain ⟨k', e1, e2, e3, e4, e5⟩ := World.obj wo hk
          have hcell : ∀ ty, (ftyL ci)[st]? = some ty → (ty = 0 ∨ ty = 1) → cellE g sh (si σ k st v) k = .inr (ci, (objV g σ rs k ci).set st (mkV g (.inl v))) := by
            intro ty hty h01
            unfold cellE
            rw [hk]
            simp only
            rw [objV_set (g := g) (σ := σ) (k := k) (rs := rs) (v := mkV g (.inl v)) hty (σ' := si σ k st v) (rs' := rs) (by rcases h01 with rfl | rfl <;> (simp [fldV, si, mkV])) (fun b t hb => fld_ne (by simp [si, hb]) rfl rfl)]
          have hoth : ∀ x, x ≠ k → 3 ≤ x → cellE g sh (si σ k st v) x = cellE g sh σ x := fun x hx _ => cellE_congr (si_ne hx) (fun _ => rfl)
          split at h
          · exact put_any A hd hc hp hk (fun t t0 _ _ _ => by rw [t0 rfl]; exact ⟨rfl, rfl⟩) (by omega) (hcell _ f6 (Or.inl rfl)) hoth rfl rfl wo.2.1 (mem_si wo.2.2 (by omega) rv) h
          · obtain ⟨h01, h⟩ := h
            exact put_any A hd hc hp hk (fun t _ t1 _ _ => by rw [t1 rfl]; rcases h01 with rfl | rfl <;> exact ⟨rfl, rfl⟩) (by omega) (hcell _ f6 (Or.inr rfl)) hoth rfl rfl wo.2.1 (mem_si wo.2.2 (by omega) rv) h
          · exact h.elim
        · exact h.elim
      · exact h.elim
    · rename_i v k S'
      have rv : in64 v := rh A.rS
      split at h
      · rename_i cj rs hk
        split at h
        · rename_i hb
          have hb := Nat.eq_of_beq_eq_true hb
          subst hb
          obtain ⟨k', e1, e2, e3, e4, e5⟩ := World.obj wo hk
          split at h
          · have hcell : cellE g sh (sl σ k st v) k = .inr (ci, (objV g σ rs k ci).set st (mkV g (.inr (.inl v)))) := by
              unfold cellE
              rw [hk]
              simp only
              rw [objV_set (g := g) (σ := σ) (k := k) (rs := rs) (v := mkV g (.inr (.inl v))) f6 (σ' := sl σ k st v) (rs' := rs) (by simp [fldV, sl, mkV]) (fun b t hb => fld_ne rfl (by simp [sl, hb]) rfl)]
            exact put_any A hd hc hp hk (fun t _ _ t2 _ => by rw [t2 rfl]; exact ⟨rfl, rfl⟩) (by omega) hcell (fun x hx _ => cellE_congr (fun _ => rfl) (sl_ne hx)) rfl rfl wo.2.1 (mem_sl wo.2.2 rv) h
          · exact h.elim
        · exact h.elim
      · exact h.elim
    · rename_i v k S'
      split at h
      · rename_i cj rs hk
        split at h
        · rename_i hb
          have hb := Nat.eq_of_beq_eq_true hb
          subst hb
          obtain ⟨k', e1, e2, e3, e4, e5⟩ := World.obj wo hk
          split at h
          · have hlt : k < sh.length := (List.getElem?_eq_some_iff.mp hk).1
            have hst : st < rs.length := by rw [e4, c4]; exact f2
            have hne : ∀ x, x ≠ k → (sh.set k (.inr ci, rs.set st (some v)))[x]? = sh[x]? := fun x hx => List.getElem?_set_ne (fun q => hx q.symm)
            have hsame : (sh.set k (.inr ci, rs.set st (some v)))[k]? = some (.inr ci, rs.set st (some v)) := List.getElem?_set_self hlt
            have hcell : cellE g (sh.set k (.inr ci, rs.set st (some v))) σ k = .inr (ci, (objV g σ rs k ci).set st (mkV g (.inr (.inr v)))) := by
              unfold cellE
              rw [hsame]
              simp only
              rw [objV_set (g := g) (σ := σ) (k := k) (rs := rs) (v := mkV g (.inr (.inr v))) f6 (σ' := σ) (rs' := rs.set st (some v)) (by simp [fldV, mkV, hst]) (fun b t hb => fld_ne rfl rfl (List.getElem?_set_ne (fun q => hb q.symm)))]
            obtain ⟨o1, o2, o3, o4, o5, o6, o7⟩ := wo.2.1
            refine put_any A hd hc hp hk (fun t _ _ _ t3 => by rcases t3 rfl with ⟨_, rfl⟩ | ⟨_, rfl⟩ <;> exact ⟨rfl, rfl⟩) (by omega) hcell (fun x hx _ => by unfold cellE; rw [hne x hx]) (by simp) (set_open (by omega)) ?_ wo.2.2 h
            refine ⟨by simpa using o1, by rw [hne 0 (by omega)]; exact o2, by rw [hne 1 (by omega)]; exact o3, by rw [hne 2 (by omega)]; exact o4, fun x ty n rs' hx hy => ?_, fun x ty n rs' hy => ?_, fun x ci' rs' hy => ?_⟩
            · by_cases hx2 : x = k
              · subst hx2; rw [hsame] at hy; cases hy
              · rw [hne x hx2] at hy; exact o5 _ _ _ _ hx hy
            · by_cases hx2 : x = k
              · subst hx2; rw [hsame] at hy; cases hy
              · rw [hne x hx2] at hy; exact o6 _ _ _ _ hy
            · by_cases hx2 : x = k
              · subst hx2; rw [hsame] at hy; cases hy; exact ⟨by simpa using e4, e5⟩
              · rw [hne x hx2] at hy; exact o7 _ _ _ hy
          · exact h.elim
        · exact h.elim
      · exact h.elim
    · exact h.elim
  · exact h.elim
end SND3
