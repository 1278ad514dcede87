/-! SOUNDNESS: arrays, the JDK's small methods, what is made -/
section SND4
variable {g : GD} {j pc : Nat} {p : Program} {l : Launch} {e : Env} {Rm : Room} {s₀ : State} {m : MethodId} {args : Array Value} {below : List Frame} {meth : Method} {cd : Code} {Z : State → Prop} {op : Bool} {H : Heap} {locs : List Loc} {ls : Array Slot} {L : List (Option PV)} {S : List PV} {sh : Sh} {c s : Nat} {σ : Mm} {Q : PQ}
theorem sh_4 {k n : Nat} {rs : List (Option Nat)} (h : ShOK g sh) (hk : sh[k]? = some (.inl (4, n), rs)) : k = 0 ∧ n = 6 := by
  obtain ⟨o1, ⟨f0, o2⟩, ⟨f1, o3⟩, ⟨f2, o4⟩, o5, o6, o7⟩ := h
  match k, hk with
  | 0, hk => rw [o2] at hk; cases hk; exact ⟨rfl, rfl⟩
  | 1, hk => rw [o3] at hk; cases hk
  | 2, hk => rw [o4] at hk; cases hk
  | k + 3, hk => have := o5 _ _ _ _ (by omega) hk; omega
theorem sh_5 {k n : Nat} {rs : List (Option Nat)} (h : ShOK g sh) (hk : sh[k]? = some (.inl (5, n), rs)) : k = 1 ∧ n = gN g := by
  obtain ⟨o1, ⟨f0, o2⟩, ⟨f1, o3⟩, ⟨f2, o4⟩, o5, o6, o7⟩ := h
  match k, hk with
  | 0, hk => rw [o2] at hk; cases hk
  | 1, hk => rw [o3] at hk; cases hk; exact ⟨rfl, rfl⟩
  | 2, hk => rw [o4] at hk; cases hk
  | k + 3, hk => have := o5 _ _ _ _ (by omega) hk; omega
theorem s_iaload (A : AtF g j p l e Rm s₀ m args below meth cd Z op Q H locs ls L S sh c s σ) (hd : decode (bytesN j) pc = .ok (.iaload, 1)) (h : wpI SemX SemX j pc L S sh c s σ Q .iaload) : W p l e Rm s₀ m args below meth cd H locs c s Z (F0 m pc ls (S.map (mkV g))) := by
  simp only [wpI] at h
  split at h
  · rename_i i k S'
    have r := A.rS
    have ri : in32 i := rh r
    have wo := A.2.2.2.2.2.1
    split at h
    · rename_i ty n rs hk
      split at h
      · obtain ⟨hin, h⟩ := h
        obtain ⟨k', e1, e2, e3, e4⟩ := World.arr wo hk (by omega)
        refine va_iald (D := gDD g) (cl := vwCl) A.1.1 A.1.2.1 A.1.2.2.2.2.2.2.2.2.2.2.1 wo.1 k' 0 e3 rfl (n_in ri hin) hd ?_
        rw [n_cl ri]
        exact h _ _ _ _ _ _ _ _ _ _ _ _ _ _ _ _ (A.stk (rc (wo.2.2.2.2.2.1 _ _) (rt (rt r))))
      · obtain ⟨hin, h⟩ := h
        obtain ⟨rfl, rfl⟩ := sh_4 wo.2.1 hk
        refine va_ti A.1.1 A.1.2.1 A.1.2.2.2.2.2.2.2.2.2.2.2.2.1 A.2.2.2.2.2.2.1 (n_in ri hin) (v := .int (Int32.ofInt (gi σ 0 i.toNat))) ?_ hd ?_
        · rw [n_cl ri]
          show Value.int (Int32.ofInt (pw i.toNat)) = _
          rw [← wo.2.2.1 i.toNat (by omega)]
          rfl
        · exact h _ _ _ _ _ _ _ _ _ _ _ _ _ _ _ _ (A.stk (rc (wo.2.2.2.2.2.1 _ _) (rt (rt r))))
      · obtain ⟨hin, h⟩ := h
        obtain ⟨rfl, rfl⟩ := sh_5 wo.2.1 hk
        have hb := A.1.2.2.2.2.2.2.2.2.2.2.2.2.2.2.1
        refine va_sld A.1.1 A.1.2.1 A.1.2.2.2.2.2.2.2.2.2.2.2.2.2.1 (Nat.lt_of_lt_of_le hb A.1.2.2.2.2.2.2.2.2.2.1) (fun q => by have q : gBase g ≤ gB g := q; omega) A.2.2.2.2.2.2.1 (n_in ri hin) hd ?_
        rw [n_cl ri, ← wo.2.2.2.1 i.toNat (by omega)]
        exact h _ _ _ _ _ _ _ _ _ _ _ _ _ _ _ _ (A.stk (rc (wo.2.2.2.2.2.1 _ _) (rt (rt r))))
      · exact h.elim
    · exact h.elim
  · exact h.elim
theorem s_baload (A : AtF g j p l e Rm s₀ m args below meth cd Z op Q H locs ls L S sh c s σ) (hd : decode (bytesN j) pc = .ok (.baload, 1)) (h : wpI SemX SemX j pc L S sh c s σ Q .baload) : W p l e Rm s₀ m args below meth cd H locs c s Z (F0 m pc ls (S.map (mkV g))) := by
  simp only [wpI] at h
  split at h
  · rename_i i k S'
    have r := A.rS
    have ri : in32 i := rh r
    have wo := A.2.2.2.2.2.1
    split at h
    · rename_i ty n rs hk
      split at h
      · obtain ⟨hin, h⟩ := h
        obtain ⟨k', e1, e2, e3, e4⟩ := World.arr wo hk (by omega)
        refine va_bald (D := gDD g) (cl := vwCl) A.1.1 A.1.2.1 A.1.2.2.2.2.2.2.2.2.2.2.1 wo.1 k' 1 e3 rfl (n_in ri hin) hd ?_
        rw [n_cl ri]
        exact h _ _ _ _ _ _ _ _ _ _ _ _ _ _ _ _ (A.stk (rc (wo.2.2.2.2.2.1 _ _) (rt (rt r))))
      · obtain ⟨hin, h⟩ := h
        obtain ⟨k', e1, e2, e3, e4⟩ := World.arr wo hk (by omega)
        refine va_zald (D := gDD g) (cl := vwCl) A.1.1 A.1.2.1 A.1.2.2.2.2.2.2.2.2.2.2.1 wo.1 k' 2 e3 rfl (n_in ri hin) hd ?_
        rw [n_cl ri]
        exact h _ _ _ _ _ _ _ _ _ _ _ _ _ _ _ _ (A.stk (rc (wo.2.2.2.2.2.1 _ _) (rt (rt r))))
      · exact h.elim
    · exact h.elim
  · exact h.elim
theorem s_laload (A : AtF g j p l e Rm s₀ m args below meth cd Z op Q H locs ls L S sh c s σ) (hd : decode (bytesN j) pc = .ok (.laload, 1)) (h : wpI SemX SemX j pc L S sh c s σ Q .laload) : W p l e Rm s₀ m args below meth cd H locs c s Z (F0 m pc ls (S.map (mkV g))) := by
  simp only [wpI] at h
  split at h
  · rename_i i k S'
    have r := A.rS
    have ri : in32 i := rh r
    have wo := A.2.2.2.2.2.1
    split at h
    · rename_i ty n rs hk
      split at h
      · obtain ⟨hin, h⟩ := h
        obtain ⟨k', e1, e2, e3, e4⟩ := World.arr wo hk (by omega)
        refine va_lald (D := gDD g) (cl := vwCl) A.1.1 A.1.2.1 A.1.2.2.2.2.2.2.2.2.2.2.1 wo.1 k' 3 e3 rfl (n_in ri hin) hd ?_
        rw [n_cl ri]
        exact h _ _ _ _ _ _ _ _ _ _ _ _ _ _ _ _ (A.stk (rc (wo.2.2.2.2.2.2 _ _) (rt (rt r))))
      · exact h.elim
    · exact h.elim
  · exact h.elim
def arrI (g : GD) (ty n : Nat) (f : Nat → Int32) : va_E := match ty with
  | 2 => .inl (gcZ g, n, .inl f)
  | 1 => .inl (gcB g, n, .inl f)
  | _ => .inl (gcI g, n, .inl f)
/-- a row's cell behind a write -/
theorem arr_si {k ty n : Nat} {rs : List (Option Nat)} {i v : Int} (hk : sh[k]? = some (.inl (ty, n), rs)) (ht : ty ≤ 2) : cellE g sh (si σ k i.toNat v) k = arrI g ty n (upd (fun b => Int32.ofInt (σ.1 k b)) i.toNat (Int32.ofInt v)) := by
  have e : (fun b => Int32.ofInt ((si σ k i.toNat v).1 k b)) = upd (fun b => Int32.ofInt (σ.1 k b)) i.toNat (Int32.ofInt v) := by
    funext b
    by_cases hb : b = i.toNat
    · subst hb; rw [pk_us]; simp [si]
    · rw [pk_un hb]; simp [si, hb]
  unfold cellE
  rw [hk]
  simp only [arrE]
  rw [e]
  match ty, ht with
  | 0, _ => rfl
  | 1, _ => rfl
  | 2, _ => rfl
theorem s_iastore (A : AtF g j p l e Rm s₀ m args below meth cd Z op Q H locs ls L S sh c s σ) (hd : decode (bytesN j) pc = .ok (.iastore, 1)) (h : wpI SemX SemX j pc L S sh c s σ Q .iastore) : W p l e Rm s₀ m args below meth cd H locs c s Z (F0 m pc ls (S.map (mkV g))) := by
  simp only [wpI] at h
  split at h
  · rename_i v i k S'
    have r := A.rS
    have rv : in32 v := rh r
    have ri : in32 i := rh (rt r)
    have wo := A.2.2.2.2.2.1
    split at h
    · rename_i ty n rs hk
      split at h
      · obtain ⟨hin, h⟩ := h
        obtain ⟨k', e1, e2, e3, e4⟩ := World.arr wo hk (by omega)
        refine va_iast (D := gDD g) (cl := vwCl) A.1.1 A.1.2.1 A.1.2.2.2.2.2.2.2.2.2.2.1 wo.1 wlE_D A.2.2.2.2.2.2.1 k' 0 e3 rfl (n_in ri hin) hd (fun H1 locs1 q1 q2 q3 => ?_)
        rw [n_cl ri] at q1
        subst e1
        exact h _ _ _ _ _ _ _ _ _ _ _ _ _ _ _ _ (A.mem (rt (rt (rt r))) (World.upd rfl e2 rfl wo.2.1 (mem_si wo.2.2 (by omega) rv) (fun x hx _ => cellE_congr (si_ne hx) (fun _ => rfl)) (by rw [arr_si hk (by omega)]; exact q1)) q3 rfl rfl)
      · exact h.elim
    · exact h.elim
  · exact h.elim
theorem s_bastore (A : AtF g j p l e Rm s₀ m args below meth cd Z op Q H locs ls L S sh c s σ) (hd : decode (bytesN j) pc = .ok (.bastore, 1)) (h : wpI SemX SemX j pc L S sh c s σ Q .bastore) : W p l e Rm s₀ m args below meth cd H locs c s Z (F0 m pc ls (S.map (mkV g))) := by
  simp only [wpI] at h
  split at h
  · rename_i v i k S'
    have r := A.rS
    have rv : in32 v := rh r
    have ri : in32 i := rh (rt r)
    have wo := A.2.2.2.2.2.1
    split at h
    · rename_i ty n rs hk
      split at h
      · obtain ⟨hin, h⟩ := h
        obtain ⟨k', e1, e2, e3, e4⟩ := World.arr wo hk (by omega)
        refine va_bast (D := gDD g) (cl := vwCl) A.1.1 A.1.2.1 A.1.2.2.2.2.2.2.2.2.2.2.1 wo.1 wlE_D A.2.2.2.2.2.2.1 k' 1 e3 rfl (n_in ri hin) hd (fun H1 locs1 q1 q2 q3 => ?_)
        rw [n_cl ri, vp_nar_byte, n_b] at q1
        subst e1
        exact h _ _ _ _ _ _ _ _ _ _ _ _ _ _ _ _ (A.mem (rt (rt (rt r))) (World.upd rfl e2 rfl wo.2.1 (mem_si wo.2.2 (by omega) (by have := w8_in v; unfold in32; omega)) (fun x hx _ => cellE_congr (si_ne hx) (fun _ => rfl)) (by rw [arr_si hk (by omega)]; exact q1)) q3 rfl rfl)
      · obtain ⟨hin, h01, h⟩ := h
        obtain ⟨k', e1, e2, e3, e4⟩ := World.arr wo hk (by omega)
        refine va_zast (D := gDD g) (cl := vwCl) A.1.1 A.1.2.1 A.1.2.2.2.2.2.2.2.2.2.2.1 wo.1 wlE_D A.2.2.2.2.2.2.1 k' 2 e3 rfl (n_in ri hin) hd (fun H1 locs1 q1 q2 q3 => ?_)
        have hn : vp_nar .boolean (Int32.ofInt v) = Int32.ofInt v := by rcases h01 with rfl | rfl <;> rfl
        rw [n_cl ri, hn] at q1
        subst e1
        exact h _ _ _ _ _ _ _ _ _ _ _ _ _ _ _ _ (A.mem (rt (rt (rt r))) (World.upd rfl e2 rfl wo.2.1 (mem_si wo.2.2 (by omega) rv) (fun x hx _ => cellE_congr (si_ne hx) (fun _ => rfl)) (by rw [arr_si hk (by omega)]; exact q1)) q3 rfl rfl)
      · exact h.elim
    · exact h.elim
  · exact h.elim
theorem s_lastore (A : AtF g j p l e Rm s₀ m args below meth cd Z op Q H locs ls L S sh c s σ) (hd : decode (bytesN j) pc = .ok (.lastore, 1)) (h : wpI SemX SemX j pc L S sh c s σ Q .lastore) : W p l e Rm s₀ m args below meth cd H locs c s Z (F0 m pc ls (S.map (mkV g))) := by
  simp only [wpI] at h
  split at h
  · rename_i v i k S'
    have r := A.rS
    have rv : in64 v := rh r
    have ri : in32 i := rh (rt r)
    have wo := A.2.2.2.2.2.1
    split at h
    · rename_i ty n rs hk
      split at h
      · obtain ⟨hin, h⟩ := h
        obtain ⟨k', e1, e2, e3, e4⟩ := World.arr wo hk (by omega)
        refine va_last (D := gDD g) (cl := vwCl) A.1.1 A.1.2.1 A.1.2.2.2.2.2.2.2.2.2.2.1 wo.1 wlE_D A.2.2.2.2.2.2.1 k' 3 e3 rfl (n_in ri hin) hd (fun H1 locs1 q1 q2 q3 => ?_)
        rw [n_cl ri] at q1
        subst e1
        refine h _ _ _ _ _ _ _ _ _ _ _ _ _ _ _ _ (A.mem (rt (rt (rt r))) (World.upd rfl e2 rfl wo.2.1 (mem_sl wo.2.2 rv) (fun x hx _ => cellE_congr (σ := σ) (fun _ => rfl) (sl_ne hx)) ?_) q3 rfl rfl)
        have ef : (fun b => Int64.ofInt ((sl σ (k' + 3) i.toNat v).2 (k' + 3) b)) = vp_updL (fun b => Int64.ofInt (σ.2 (k' + 3) b)) i.toNat (Int64.ofInt v) := by
          funext b
          by_cases hb : b = i.toNat
          · subst hb; rw [pk_uLs]; simp [sl]
          · rw [pk_uLn hb]; simp [sl, hb]
        have ec : cellE g sh (sl σ (k' + 3) i.toNat v) (k' + 3) = .inl (gcJ g, n, .inr (.inl (vp_updL (fun b => Int64.ofInt (σ.2 (k' + 3) b)) i.toNat (Int64.ofInt v)))) := by
          unfold cellE
          rw [hk]
          simp only [arrE]
          rw [ef]
        rw [ec]
        exact q1
      · exact h.elim
    · exact h.elim
  · exact h.elim
theorem s_alen (A : AtF g j p l e Rm s₀ m args below meth cd Z op Q H locs ls L S sh c s σ) (hd : decode (bytesN j) pc = .ok (.arraylength, 1)) (h : wpI SemX SemX j pc L S sh c s σ Q .arraylength) : W p l e Rm s₀ m args below meth cd H locs c s Z (F0 m pc ls (S.map (mkV g))) := by
  simp only [wpI] at h
  split at h
  · rename_i k S'
    have r := A.rS
    have wo := A.2.2.2.2.2.1
    split at h
    · rename_i ty n rs hk
      have hn : in32 (n : Int) := by
        have := wo.2.1.2.2.2.2.2.1 _ _ _ _ hk
        unfold in32; omega
      split at h
      · obtain ⟨k', e1, e2, e3, e4⟩ := World.arr wo hk (by omega)
        exact va_alen (D := gDD g) (cl := vwCl) A.1.1 A.1.2.1 A.1.2.2.2.2.2.2.2.2.2.2.1 wo.1 k' 0 e3 (ty := .int) rfl (n_nat n) hd (h _ _ _ _ _ _ _ _ _ _ _ _ _ _ _ _ (A.stk (rc hn (rt r))))
      · obtain ⟨k', e1, e2, e3, e4⟩ := World.arr wo hk (by omega)
        exact va_alen (D := gDD g) (cl := vwCl) A.1.1 A.1.2.1 A.1.2.2.2.2.2.2.2.2.2.2.1 wo.1 k' 1 e3 (ty := .byte) rfl (n_nat n) hd (h _ _ _ _ _ _ _ _ _ _ _ _ _ _ _ _ (A.stk (rc hn (rt r))))
      · obtain ⟨k', e1, e2, e3, e4⟩ := World.arr wo hk (by omega)
        exact va_alen (D := gDD g) (cl := vwCl) A.1.1 A.1.2.1 A.1.2.2.2.2.2.2.2.2.2.2.1 wo.1 k' 2 e3 (ty := .boolean) rfl (n_nat n) hd (h _ _ _ _ _ _ _ _ _ _ _ _ _ _ _ _ (A.stk (rc hn (rt r))))
      · obtain ⟨k', e1, e2, e3, e4⟩ := World.arr wo hk (by omega)
        exact va_alen (D := gDD g) (cl := vwCl) A.1.1 A.1.2.1 A.1.2.2.2.2.2.2.2.2.2.2.1 wo.1 k' 3 e3 (ty := .long) rfl (n_nat n) hd (h _ _ _ _ _ _ _ _ _ _ _ _ _ _ _ _ (A.stk (rc hn (rt r))))
      · obtain ⟨rfl, rfl⟩ := sh_5 wo.2.1 hk
        have hb := A.1.2.2.2.2.2.2.2.2.2.2.2.2.2.2.1
        refine va_slen A.1.1 A.1.2.1 A.1.2.2.2.2.2.2.2.2.2.2.2.2.2.1 (Nat.lt_of_lt_of_le hb A.1.2.2.2.2.2.2.2.2.2.1) (fun q => by have q : gBase g ≤ gB g := q; omega) A.2.2.2.2.2.2.1 hd ?_
        rw [n_nat]
        exact h _ _ _ _ _ _ _ _ _ _ _ _ _ _ _ _ (A.stk (rc hn (rt r)))
      · exact h.elim
    · exact h.elim
  · exact h.elim
end SND4
