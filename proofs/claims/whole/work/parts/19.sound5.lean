/-! SOUNDNESS: the JDK's small methods; new cells -/
section SND5
variable {g : GD} {j pc : Nat} {p : Program} {l : Launch} {e : Env} {Rm : Room} {s₀ : State} {m : MethodId} {args : Array Value} {below : List Frame} {meth : Method} {cd : Code} {Z : State → Prop} {op : Bool} {H : Heap} {locs : List Loc} {ls : Array Slot} {L : List (Option PV)} {S : List PV} {sh : Sh} {c s : Nat} {σ : Mm} {Q : PQ}
theorem catS_map (S : List PV) : ((S.map (mkV g)).map fun v => v.category).sum = catS S := by
  induction S with
  | nil => rfl
  | cons v S ih =>
    simp only [List.map_cons, List.sum_cons, catS]
    rw [ih, catV]
theorem gd_ok {S' : List PV} {P : Prop} (h : gd S' P) : catS S' ≤ 8 ∧ P := by
  unfold gd at h
  split at h
  · rename_i hb; exact ⟨Nat.le_of_ble_eq_true hb, h⟩
  · exact h.elim
theorem AtF.room (A : AtF g j p l e Rm s₀ m args below meth cd Z op Q H locs ls L S sh c s σ) : Rm = roomN j := A.1.2.2.2.2.2.2.2.2.1.1
theorem AtF.ml (A : AtF g j p l e Rm s₀ m args below meth cd Z op Q H locs ls L S sh c s σ) : cd.maxLocals = ls.size := A.1.2.2.1.trans A.2.2.1.1.symm
theorem s_objInit {i : Nat} {a : Nat} {S' : List PV} (A : AtF g j p l e Rm s₀ m args below meth cd Z op Q H locs ls L (.inr (.inr a) :: S') sh c s σ) (hd : decode (bytesN j) pc = .ok (.invokespecial i, 3)) (hp : poolAt t_meth (ownN j) i = some 1000) (hc : ichk j pc (.invokespecial i) = true) (h : gd S' (SemX j (pc + 3) L S' sh c s σ Q)) : W p l e Rm s₀ m args below meth cd H locs c s Z (F0 m pc ls ((.inr (.inr a) :: S').map (mkV g))) := by
  obtain ⟨h8, h⟩ := gd_ok h
  have hl := lchk_all hp
  unfold lchk at hl
  rw [hp] at hl
  simp only [ichk, hp] at hc
  simp only [Nat.reduceLT, if_false, Bool.and_eq_true, decide_eq_true_eq] at hc
  have hr := A.room
  refine W.objInit (R := Rm) A.1.1 A.1.2.1 A.1.2.2.2.1 (A.1.2.2.2.2.1 _ (gwAt_mem hl)) (A.1.2.2.2.2.1 _ gw_objI) (A.1.2.2.2.2.1 _ gw_objC) (g := F0 m pc ls ((.inr (.inr a) :: S').map (mkV g))) rfl A.ml.symm (a := adr g a) (rest := S'.map (mkV g)) rfl hd (by rw [hr]; exact hc.1.1) (by rw [catS_map, hr]; show 2 * 0 + catS S' + 12 ≤ loN j; omega) ?_
  exact W.eq rfl (h _ _ _ _ _ _ _ _ _ _ _ _ _ _ _ _ (A.stk (rt A.rS)))
theorem mem_cp {k i a b n : Nat} (h : MemOK g σ) (ha : 3 ≤ a) : MemOK g (cp σ k i a b n) := by
  obtain ⟨h1, h2, h3, h4, h5⟩ := h
  refine ⟨fun y hy => ?_, fun y hy => ?_, fun y hy => ?_, fun x y => ?_, h5⟩
  · show (if 0 = a ∧ b ≤ y ∧ y < b + n then σ.1 k (i + (y - b)) else σ.1 0 y) = _
    rw [if_neg (by omega)]; exact h1 y hy
  · show Int32.ofInt (if 1 = a ∧ b ≤ y ∧ y < b + n then σ.1 k (i + (y - b)) else σ.1 1 y) = _
    rw [if_neg (by omega)]; exact h2 y hy
  · show (if 2 = a ∧ b ≤ y ∧ y < b + n then σ.1 k (i + (y - b)) else σ.1 2 y) = _
    rw [if_neg (by omega)]; exact h3 y hy
  · show in32 (if x = a ∧ b ≤ y ∧ y < b + n then σ.1 k (i + (y - b)) else σ.1 x y)
    split
    · exact h4 _ _
    · exact h4 _ _
theorem s_static_builtin {i k : Nat} (A : AtF g j p l e Rm s₀ m args below meth cd Z op Q H locs ls L S sh c s σ) (hi : insAt j pc = some (.invokestatic i)) (hd : decode (bytesN j) pc = .ok (.invokestatic i, 3)) (hp : poolAt t_meth (ownN j) i = some k) (hk : 1000 ≤ k) (hc : ichk j pc (.invokestatic i) = true) (h : wpI SemX SemX j pc L S sh c s σ Q (.invokestatic i)) : W p l e Rm s₀ m args below meth cd H locs c s Z (F0 m pc ls (S.map (mkV g))) := by
  have hl := lchk_all hp
  unfold lchk at hl
  rw [hp] at hl
  simp only [ichk, hp] at hc
  rw [if_neg (by omega)] at hc
  simp only [Bool.and_eq_true, decide_eq_true_eq] at hc
  obtain ⟨⟨⟨hc1, hc2⟩, hc3⟩, hc4⟩ := hc
  have hr := A.room
  have wo := A.2.2.2.2.2.1
  have hcc : c ≤ Rm.cells := by rw [hr]; exact A.2.2.2.2.2.2.2.1
  have hss : s ≤ Rm.slots := by rw [hr]; exact A.2.2.2.2.2.2.2.2.1
  have hfr : 1 ≤ Rm.frames := by rw [hr]; exact hc1
  have r := A.rS
  have hk2 : k = 1001 ∨ k = 1002 ∨ k = 1003 ∨ k = 1004 ∨ k = 1005 ∨ k = 1006 ∨ k = 1007 := by omega
  simp only [wpI, hp] at h
  rcases hk2 with rfl | rfl | rfl | rfl | rfl | rfl | rfl
  · simp only at h
    split at h
    · rename_i n dp a sp b S'
      have rn : in32 n := rh r
      have rd : in32 dp := rh (rt r)
      have rs : in32 sp := rh (rt (rt (rt r)))
      split at h
      · rename_i na _ nb _ ha hb
        obtain ⟨h8, ⟨h1, h2, h3, h4, h5⟩, h⟩ := gd_ok h
        obtain ⟨a', a1, a2, a3, a4⟩ := World.arr wo ha (by omega)
        obtain ⟨b', b1, b2, b3, b4⟩ := World.arr wo hb (by omega)
        refine va_copyi (D := gDD g) (cl := vwCl) (ty := .int) A.1.1 A.1.2.1 A.ml A.1.2.2.2.1 (A.1.2.2.2.2.1 _ (gwAt_mem hl)) (A.1.2.2.2.2.1 _ gw_cpN) (A.1.2.2.2.2.1 _ gw_cpS) (A.1.2.2.2.2.1 _ gw_sysI) A.1.2.2.2.2.2.2.2.2.2.2.1 wo.1 wlE_D A.2.2.2.2.2.2.1 b' a' 0 0 b3 a3 rfl rfl rfl
          (fun q => by have := (n_lt rs in32_0).mp q; omega) (fun q => by have := (n_lt rd in32_0).mp q; omega) (fun q => by have := (n_lt rn in32_0).mp q; omega) (by rw [n_cl rs, n_cl rn]; omega) (by rw [n_cl rd, n_cl rn]; omega) (fun _ _ => rfl) hfr ?_ hd (fun H1 locs1 q1 q2 q3 => ?_)
        · rw [catS_map, hr]
          simp only [decide_true, Bool.not_true, Bool.false_or, decide_eq_true_eq] at hc4
          show catS S' + _ ≤ loN j
          omega
        · rw [n_cl rs, n_cl rd, n_cl rn] at q1
          subst a1
          refine h _ _ _ _ _ _ _ _ _ _ _ _ _ _ _ _ (A.mem (rt (rt (rt (rt (rt r))))) (World.upd rfl a2 rfl wo.2.1 (mem_cp wo.2.2 (by omega)) (fun x hx _ => cellE_congr (σ := σ) (fun y => ?_) (fun _ => rfl)) ?_) q3 rfl rfl)
          · show (if x = a' + 3 ∧ _ then _ else σ.1 x y) = _
            rw [if_neg (fun q => hx q.1)]
          · have ef : (fun y => Int32.ofInt ((cp σ b sp.toNat (a' + 3) dp.toNat n.toNat).1 (a' + 3) y)) = va_cpy (fun y => Int32.ofInt (σ.1 b y)) (fun y => Int32.ofInt (σ.1 (a' + 3) y)) sp.toNat dp.toNat n.toNat := by
              funext y
              show Int32.ofInt (if a' + 3 = a' + 3 ∧ dp.toNat ≤ y ∧ y < dp.toNat + n.toNat then σ.1 b (sp.toNat + (y - dp.toNat)) else σ.1 (a' + 3) y) = if dp.toNat ≤ y ∧ y < dp.toNat + n.toNat then Int32.ofInt (σ.1 b (sp.toNat + (y - dp.toNat))) else Int32.ofInt (σ.1 (a' + 3) y)
              by_cases hy : dp.toNat ≤ y ∧ y < dp.toNat + n.toNat
              · rw [if_pos ⟨rfl, hy⟩, if_pos hy]
              · rw [if_neg (fun q => hy q.2), if_neg hy]
            have ec : cellE g sh (cp σ b sp.toNat (a' + 3) dp.toNat n.toNat) (a' + 3) = .inl (gcI g, na, .inl (va_cpy (fun y => Int32.ofInt (σ.1 b y)) (fun y => Int32.ofInt (σ.1 (a' + 3) y)) sp.toNat dp.toNat n.toNat)) := by
              unfold cellE
              rw [ha]
              simp only [arrE]
              rw [ef]
            rw [ec]
            exact q1
      · exact h.elim
    · exact h.elim
  · simp only at h
    split at h
    · rename_i a S'
      have ra : in32 a := rh r
      obtain ⟨h8, h⟩ := gd_ok h
      refine va_mabs A.1.1 A.1.2.1 A.ml A.1.2.2.2.1 (A.1.2.2.2.2.1 _ (gwAt_mem hl)) (A.1.2.2.2.2.1 _ gw_absS) (A.1.2.2.2.2.1 _ gw_mI) (A.1.2.2.2.2.1 _ gw_absC) hfr (by rw [catS_map, hr]; show catS S' + 13 ≤ loN j; omega) hcc hss hd ?_
      have e1 : (if 0 ≤ Int32.ofInt a then Int32.ofInt a else 0 - Int32.ofInt a) = Int32.ofInt (if 0 ≤ a then a else w32 (0 - a)) := by
        by_cases h0 : 0 ≤ a
        · have z0 : (0 : Int32) ≤ Int32.ofInt a := (n_le in32_0 ra).mpr h0
          rw [if_pos h0, if_pos z0]
        · have z0 : ¬ (0 : Int32) ≤ Int32.ofInt a := fun q => h0 ((n_le in32_0 ra).mp q)
          rw [if_neg h0, if_neg z0, ← n_sub]; rfl
      rw [e1]
      exact h _ _ _ _ _ _ _ _ _ _ _ _ _ _ _ _ (A.stk (rc (by show in32 _; split; exact ra; exact w32_in _) (rt r)))
    · exact h.elim
  · simp only at h
    split at h
    · rename_i a S'
      have ra : in64 a := rh r
      obtain ⟨h8, h⟩ := gd_ok h
      refine va_mabs_long A.1.1 A.1.2.1 A.ml A.1.2.2.2.1 (A.1.2.2.2.2.1 _ (gwAt_mem hl)) (A.1.2.2.2.2.1 _ gw_absLS) (A.1.2.2.2.2.1 _ gw_mI) (A.1.2.2.2.2.1 _ gw_absLC) hfr (by rw [catS_map, hr]; show catS S' + 13 ≤ loN j; omega) hcc hss hd ?_
      have e1 : (if 0 < Int64.ofInt a then Int64.ofInt a else -Int64.ofInt a) = Int64.ofInt (if 0 < a then a else w64 (-a)) := by
        by_cases h0 : 0 < a
        · have z0 : (0 : Int64) < Int64.ofInt a := (m_lt in64_0 ra).mpr h0
          rw [if_pos h0, if_pos z0]
        · have z0 : ¬ (0 : Int64) < Int64.ofInt a := fun q => h0 ((m_lt in64_0 ra).mp q)
          rw [if_neg h0, if_neg z0, ← m_neg]
      rw [e1]
      exact h _ _ _ _ _ _ _ _ _ _ _ _ _ _ _ _ (A.stk (rc (by show in64 _; split; exact ra; exact w64_in _) (rt r)))
    · exact h.elim
  · simp only at h
    split at h
    · rename_i b a S'
      have ra : in32 a := rh (rt r)
      have rb : in32 b := rh r
      obtain ⟨h8, h⟩ := gd_ok h
      refine va_mmin A.1.1 A.1.2.1 A.ml A.1.2.2.2.1 (A.1.2.2.2.2.1 _ (gwAt_mem hl)) (A.1.2.2.2.2.1 _ gw_minS) (A.1.2.2.2.2.1 _ gw_mI) (A.1.2.2.2.2.1 _ gw_minC) hfr (by rw [catS_map, hr]; show catS S' + 13 ≤ loN j; omega) hcc hss hd ?_
      have e1 : (if Int32.ofInt b < Int32.ofInt a then Int32.ofInt b else Int32.ofInt a) = Int32.ofInt (if b < a then b else a) := by
        by_cases h0 : b < a
        · rw [if_pos h0, if_pos ((n_lt rb ra).mpr h0)]
        · rw [if_neg h0, if_neg (fun q => h0 ((n_lt rb ra).mp q))]
      rw [e1]
      exact h _ _ _ _ _ _ _ _ _ _ _ _ _ _ _ _ (A.stk (rc (by show in32 _; split; exact rb; exact ra) (rt (rt r))))
    · exact h.elim
  · simp only at h
    split at h
    · rename_i b a S'
      have ra : in32 a := rh (rt r)
      have rb : in32 b := rh r
      obtain ⟨h8, h⟩ := gd_ok h
      refine va_mmax A.1.1 A.1.2.1 A.ml A.1.2.2.2.1 (A.1.2.2.2.2.1 _ (gwAt_mem hl)) (A.1.2.2.2.2.1 _ gw_maxS) (A.1.2.2.2.2.1 _ gw_mI) (A.1.2.2.2.2.1 _ gw_maxC) hfr (by rw [catS_map, hr]; show catS S' + 13 ≤ loN j; omega) hcc hss hd ?_
      have e1 : (if Int32.ofInt a < Int32.ofInt b then Int32.ofInt b else Int32.ofInt a) = Int32.ofInt (if a < b then b else a) := by
        by_cases h0 : a < b
        · rw [if_pos h0, if_pos ((n_lt ra rb).mpr h0)]
        · rw [if_neg h0, if_neg (fun q => h0 ((n_lt ra rb).mp q))]
      rw [e1]
      exact h _ _ _ _ _ _ _ _ _ _ _ _ _ _ _ _ (A.stk (rc (by show in32 _; split; exact rb; exact ra) (rt (rt r))))
    · exact h.elim
  · simp only at h
    split at h
    · rename_i b a S'
      have ra : in64 a := rh (rt r)
      have rb : in64 b := rh r
      have hx := xchk_ok hi hp (Or.inl rfl)
      obtain ⟨h8, h⟩ := gd_ok h
      refine va_mmin_long A.1.1 A.1.2.1 A.ml A.1.2.2.2.1 (A.1.2.2.2.2.1 _ (gwAt_mem hl)) (A.1.2.2.2.2.1 _ gw_minLS) (A.1.2.2.2.2.1 _ gw_mI) (A.1.2.2.2.2.1 _ gw_minLC) hfr (by rw [catS_map, hr]; show catS S' + 15 ≤ loN j; omega) hcc hss hd ?_
      have e1 : (if Int64.ofInt b < Int64.ofInt a then Int64.ofInt b else Int64.ofInt a) = Int64.ofInt (if b < a then b else a) := by
        by_cases h0 : b < a
        · rw [if_pos h0, if_pos ((m_lt rb ra).mpr h0)]
        · rw [if_neg h0, if_neg (fun q => h0 ((m_lt rb ra).mp q))]
      rw [e1]
      exact h _ _ _ _ _ _ _ _ _ _ _ _ _ _ _ _ (A.stk (rc (by show in64 _; split; exact rb; exact ra) (rt (rt r))))
    · exact h.elim
  · simp only at h
    split at h
    · rename_i b a S'
      have ra : in64 a := rh (rt r)
      have rb : in64 b := rh r
      have hx := xchk_ok hi hp (Or.inr rfl)
      obtain ⟨h8, h⟩ := gd_ok h
      refine va_mmax_long A.1.1 A.1.2.1 A.ml A.1.2.2.2.1 (A.1.2.2.2.2.1 _ (gwAt_mem hl)) (A.1.2.2.2.2.1 _ gw_maxLS) (A.1.2.2.2.2.1 _ gw_mI) (A.1.2.2.2.2.1 _ gw_maxLC) hfr (by rw [catS_map, hr]; show catS S' + 15 ≤ loN j; omega) hcc hss hd ?_
      have e1 : (if Int64.ofInt b < Int64.ofInt a then Int64.ofInt a else Int64.ofInt b) = Int64.ofInt (if b < a then a else b) := by
        by_cases h0 : b < a
        · rw [if_pos h0, if_pos ((m_lt rb ra).mpr h0)]
        · rw [if_neg h0, if_neg (fun q => h0 ((m_lt rb ra).mp q))]
      rw [e1]
      exact h _ _ _ _ _ _ _ _ _ _ _ _ _ _ _ _ (A.stk (rc (by show in64 _; split; exact ra; exact rb) (rt (rt r))))
    · exact h.elim
/-- the heap has no more cells than were counted -/
theorem W_size {f : JFrame} (k : H.size ≤ s₀.heap.size + c → W p l e Rm s₀ m args below meth cd H locs c s Z f) : W p l e Rm s₀ m args below meth cd H locs c s Z f :=
  fun T hT X => k (by rw [← hT]; exact X.same.2.2.1) T hT X
theorem AtF.size (A : AtF g j p l e Rm s₀ m args below meth cd Z op Q H locs ls L S sh c s σ) (ho : isOpen sh = true) (hz : H.size ≤ s₀.heap.size + c) : H.size = gBase g + (sh.length - 3) := by
  have h1 := (A.2.2.2.2.2.2.2.2.2 ho).1
  have h2 : gBase g + (sh.length - 3) ≤ H.size := by
    by_cases hn : sh.length - 3 = 0
    · rw [hn]
      exact Nat.le_trans A.1.2.2.2.2.2.2.2.2.2.1 A.2.2.2.2.2.2.1.1
    · have hk : sh.length - 3 - 1 < sh.length - 3 := by omega
      have := (A.2.2.2.2.2.1.1 _ _ (wlE_get hk)).lt
      have : gBase g + (sh.length - 3 - 1) < H.size := this
      omega
  omega
theorem mem_sz {k : Nat} (h : MemOK g σ) (hk : 3 ≤ k) : MemOK g (sz σ k) := by
  obtain ⟨h1, h2, h3, h4, h5⟩ := h
  refine ⟨fun b hb => ?_, fun b hb => ?_, fun b hb => ?_, fun a b => ?_, fun a b => ?_⟩
  · show (if 0 = k then 0 else σ.1 0 b) = _
    rw [if_neg (by omega)]; exact h1 b hb
  · show Int32.ofInt (if 1 = k then 0 else σ.1 1 b) = _
    rw [if_neg (by omega)]; exact h2 b hb
  · show (if 2 = k then 0 else σ.1 2 b) = _
    rw [if_neg (by omega)]; exact h3 b hb
  · show in32 (if a = k then 0 else σ.1 a b)
    split
    · exact in32_0
    · exact h4 a b
  · show in64 (if a = k then 0 else σ.2 a b)
    split
    · exact in64_0
    · exact h5 a b
theorem app_open {x : Kd × List (Option Nat)} (h : 3 ≤ sh.length) : isOpen (sh ++ [x]) = isOpen sh := by
  match sh, h with
  | (a, []) :: r, _ => rfl
  | (a, _ :: _) :: r, _ => rfl
/-- a cell more -/
theorem AtF.grow {x : Kd × List (Option Nat)} {N : Nat} {H1 : Heap} {S' : List PV} (A : AtF g j p l e Rm s₀ m args below meth cd Z op Q H locs ls L S sh c s σ) (hz : H.size = gBase g + (sh.length - 3)) (hS : ∀ v, v ∈ S' → rngV v) (hc : c + 1 ≤ mcN j) (hs : s + N ≤ msN j)
    (hk : ∀ (k ty n : Nat), x.1 = .inl (ty, n) → ty ≤ 3 ∧ n < 2147483648) (ho : ∀ ci, x.1 = .inr ci → x.2.length = (ftyL ci).length ∧ ci < 11) (z1 : H1.size = H.size + 1) (o1 : ∀ q, q < H.size → H1[q]? = H[q]?) (hat : va_at (gDD g) vwCl (H.size, cellE g (sh ++ [x]) (sz σ sh.length) sh.length) H1) :
    AtF g j p l e Rm s₀ m args below meth cd Z op Q H1 locs ls L S' (sh ++ [x]) (c + 1) (s + N) (sz σ sh.length) := by
  have wo := A.2.2.2.2.2.1
  have hS0 := A.2.2.2.2.2.2.1
  have h3 : 3 ≤ sh.length := wo.2.1.1
  have hget : ∀ k, k < sh.length → (sh ++ [x])[k]? = sh[k]? := fun k hk => List.getElem?_append_left hk
  have hnew : (sh ++ [x])[sh.length]? = some x := by simp
  have hlen : (sh ++ [x]).length - 3 = (sh.length - 3) + 1 := by simp; omega
  refine ⟨A.1, A.2.1, A.2.2.1, A.2.2.2.1, hS, ⟨?_, ?_, mem_sz wo.2.2 h3⟩, ⟨by rw [z1]; exact Nat.le_succ_of_le hS0.1, fun q h1 h2 => by rw [o1 q (Nat.lt_of_lt_of_le h1 hS0.1)]; exact hS0.2.1 q h1 h2, hS0.2.2⟩, hc, hs, fun q => ?_⟩
  · rw [hlen, wlE_push]
    refine va_P.app ?_ ?_
    · rw [wlE_congr (E := cellE g sh σ) (fun k hk => ?_)]
      · exact wo.1.kept (fun k q hq => by
          obtain ⟨h1, rfl⟩ := wlE_inv hq
          exact o1 _ (by rw [hz]; show gBase g + k < _; omega))
      · have e0 : cellE g (sh ++ [x]) (sz σ sh.length) (k + 3) = cellE g sh (sz σ sh.length) (k + 3) := by
          unfold cellE
          rw [hget (k + 3) (by omega)]
        rw [e0]
        exact cellE_congr (fun b => by show (if k + 3 = sh.length then 0 else σ.1 (k + 3) b) = _; rw [if_neg (by omega)]) (fun b => by show (if k + 3 = sh.length then 0 else σ.2 (k + 3) b) = _; rw [if_neg (by omega)])
    · intro k q hq
      have hk0 : k = 0 := by
        have := (List.getElem?_eq_some_iff.mp hq).1
        simp at this; omega
      subst hk0
      cases hq
      rw [hz] at hat
      rw [show sh.length - 3 + 3 = sh.length by omega]
      exact hat
  · obtain ⟨o1, o2, o3, o4, o5, o6, o7⟩ := wo.2.1
    refine ⟨by simp; omega, by rw [hget 0 (by omega)]; exact o2, by rw [hget 1 (by omega)]; exact o3, by rw [hget 2 (by omega)]; exact o4, fun y ty n rs' hx hy => ?_, fun y ty n rs' hy => ?_, fun y ci' rs' hy => ?_⟩
    · by_cases hl : y < sh.length
      · rw [hget y hl] at hy; exact o5 _ _ _ _ hx hy
      · have := (List.getElem?_eq_some_iff.mp hy).1
        have e : y = sh.length := by simp at this; omega
        subst e
        rw [hnew] at hy
        exact (hk 0 ty n (by rw [Option.some.inj hy])).1
    · by_cases hl : y < sh.length
      · rw [hget y hl] at hy; exact o6 _ _ _ _ hy
      · have := (List.getElem?_eq_some_iff.mp hy).1
        have e : y = sh.length := by simp at this; omega
        subst e
        rw [hnew] at hy
        exact (hk 0 ty n (by rw [Option.some.inj hy])).2
    · by_cases hl : y < sh.length
      · rw [hget y hl] at hy; exact o7 _ _ _ hy
      · have := (List.getElem?_eq_some_iff.mp hy).1
        have e : y = sh.length := by simp at this; omega
        subst e
        rw [hnew] at hy
        have := ho ci' (by rw [Option.some.inj hy])
        rw [Option.some.inj hy] at this
        exact this
  · rw [app_open h3] at q
    have := A.2.2.2.2.2.2.2.2.2 q
    rw [hlen]
    exact ⟨by omega, this.2⟩
theorem adr_len (h : 3 ≤ sh.length) : adr g sh.length = gBase g + (sh.length - 3) := by
  obtain ⟨n, hn⟩ : ∃ n, sh.length = n + 3 := ⟨sh.length - 3, by omega⟩
  rw [hn]
  rfl
theorem s_newarray {at' : ArrayType} (A : AtF g j p l e Rm s₀ m args below meth cd Z op Q H locs ls L S sh c s σ) (hd : decode (bytesN j) pc = .ok (.newarray at', 2)) (h : wpI SemX SemX j pc L S sh c s σ Q (.newarray at')) : W p l e Rm s₀ m args below meth cd H locs c s Z (F0 m pc ls (S.map (mkV g))) := by
  simp only [wpI] at h
  split at h
  · rename_i n S'
    have r := A.rS
    have rn : in32 n := rh r
    split at h
    · rename_i ho
      obtain ⟨⟨h1, h2, h3, h4⟩, h⟩ := h
      have hr := A.room
      have wo := A.2.2.2.2.2.1
      refine W_size fun hz0 => ?_
      have hz := A.size ho hz0
      have hl3 : 3 ≤ sh.length := wo.2.1.1
      have key : ∀ (ty : Nat) (t : FieldType) (t0 : Nat), newarray.typeOf at' = t → Cond.arrayClass t ∈ GWl → ty ≤ 3 → ∀ cX : ClassId, (gTy g)[t0]? = some (cX, t) → (∀ U : State, va_RA U cX t → U.vm.findClass ("[" ++ t.toString) = some cX) → componentBytes t ≤ 8 →
          (∀ σ' : Mm, (∀ b, σ'.1 sh.length b = 0) → (∀ b, σ'.2 sh.length b = 0) → ∀ H1 : Heap, H1[H.size]? = some (arrV cX n.toNat (fun _ => defaultValue t)) → va_at (gDD g) vwCl (H.size, arrE g σ' sh.length ty n.toNat) H1) →
          SemX j (pc + 2) L (.inr (.inr sh.length) :: S') (sh ++ [(.inl (ty, n.toNat), [])]) (c + 1) (s + n.toNat) (sz σ sh.length) Q → W p l e Rm s₀ m args below meth cd H locs c s Z (F0 m pc ls ((.inl n :: S').map (mkV g))) := by
        intro ty t t0 e1 e2 e3 cX e4 e5 e6 e7 hx
        have hb : n.toNat * componentBytes (newarray.typeOf at') ≤ 536870912 := by
          rw [e1]
          have : n.toNat * componentBytes t ≤ 65536 * 8 := Nat.mul_le_mul (by omega) e6
          omega
        refine va_newaK (R := Rm) (cells := c) (slots := s) A.1.1 A.1.2.1 (atype := at') (by rw [e1]; exact A.1.2.2.2.2.1 _ e2) (g := F0 m pc ls ((.inl n :: S').map (mkV g))) rfl hd (n := Int32.ofInt n) (N := n.toNat) (rest := S'.map (mkV g)) rfl (fun q => by have := (n_lt rn in32_0).mp q; omega) (n_cl rn) hb (by rw [hr]; exact h3) (by rw [hr]; exact h4) rfl (fun H1 cA q1 q2 q3 q4 q5 => ?_)
        rw [e1] at q1 q5
        have hc : cA = cX := Option.some.inj (q5.symm.trans (e5 _ (A.1.2.2.2.2.2.2.2.2.2.2.1.2 t0 _ e4).2))
        subst hc
        have hA := A.grow (x := (.inl (ty, n.toNat), [])) (N := n.toNat) (S' := .inr (.inr sh.length) :: S') hz (rc trivial (rt r)) h3 h4 (fun _ ty' n' q => by cases q; exact ⟨e3, by omega⟩) (fun ci q => by cases q) q2 q3 (by
          have ec : cellE g (sh ++ [(.inl (ty, n.toNat), [])]) (sz σ sh.length) sh.length = arrE g (sz σ sh.length) sh.length ty n.toNat := by
            unfold cellE
            simp
          rw [ec]
          exact e7 _ (fun b => by simp [sz]) (fun b => by simp [sz]) H1 q1)
        have hx2 := hx _ _ _ _ _ _ _ _ _ _ _ _ _ _ _ _ hA
        refine W.eq ?_ hx2
        show F0 m (pc + 2) ls (.ref H.size :: _) = F0 m (pc + 2) ls (.ref (adr g sh.length) :: _)
        rw [hz, adr_len hl3]
      split at h
      · exact key 0 .int 0 rfl gw_aI (by omega) (gcI g) rfl (fun _ q => q) (by decide) (fun σ' z1 z2 H1 q => by
          show H1[H.size]? = some (vp_cell (gcI g) (n.toNat, .inl (fun i => Int32.ofInt (σ'.1 sh.length i))))
          rw [q, vp_cell_i]; simp only [z1]; rfl) h
      · exact key 1 .byte 1 rfl gw_aB (by omega) (gcB g) rfl (fun _ q => q) (by decide) (fun σ' z1 z2 H1 q => by
          show H1[H.size]? = some (vp_cell (gcB g) (n.toNat, .inl (fun i => Int32.ofInt (σ'.1 sh.length i))))
          rw [q, vp_cell_i]; simp only [z1]; rfl) h
      · exact key 2 .boolean 2 rfl gw_aZ (by omega) (gcZ g) rfl (fun _ q => q) (by decide) (fun σ' z1 z2 H1 q => by
          show H1[H.size]? = some (vp_cell (gcZ g) (n.toNat, .inl (fun i => Int32.ofInt (σ'.1 sh.length i))))
          rw [q, vp_cell_i]; simp only [z1]; rfl) h
      · exact key 3 .long 3 rfl gw_aJ (by omega) (gcJ g) rfl (fun _ q => q) (by decide) (fun σ' z1 z2 H1 q => by
          show H1[H.size]? = some (vp_cell (gcJ g) (n.toNat, .inr (.inl (fun i => Int64.ofInt (σ'.2 sh.length i)))))
          rw [q, vp_cell_l]; simp only [z2]; rfl) h
      · exact h.elim
    · exact h.elim
  · exact h.elim
theorem s_new {i : Nat} (A : AtF g j p l e Rm s₀ m args below meth cd Z op Q H locs ls L S sh c s σ) (hd : decode (bytesN j) pc = .ok (.new i, 3)) (h : wpI SemX SemX j pc L S sh c s σ Q (.new i)) : W p l e Rm s₀ m args below meth cd H locs c s Z (F0 m pc ls (S.map (mkV g))) := by
  simp only [wpI] at h
  split at h
  · rename_i ci hp
    split at h
    · rename_i N hN
      split at h
      · rename_i ho
        obtain ⟨⟨h3, h4⟩, h⟩ := h
        have hr := A.room
        have wo := A.2.2.2.2.2.1
        have hk := cchk_all hp
        unfold cchk at hk
        rw [hp] at hk
        simp only [hN] at hk
        split at hk
        · rename_i C T N' n' hv hn'
          cases hn'
          simp only [Bool.and_eq_true, decide_eq_true_eq] at hk
          obtain ⟨⟨⟨rfl, k1⟩, k2⟩, k3⟩ := hk
          obtain ⟨⟨tyf, c1, c2, c3, c4, c5, c6⟩, hci⟩ := cls_ok hv
          refine W_size fun hz0 => ?_
          have hz := A.size ho hz0
          have hl3 : 3 ≤ sh.length := wo.2.1.1
          have hK := A.1.2.2.2.2.2.2.2.2.2.2.1
          have hKn := hK.1 ci _ hv
          refine W.newcK (R := Rm) (cells := c) (slots := s) A.1.1 A.1.2.1 A.1.2.2.2.1 (A.1.2.2.2.2.1 _ (gwAt_mem k1)) (A.1.2.2.2.2.1 _ (gwAt_mem k2)) (A.1.2.2.2.2.1 _ (gwAt_mem k3)) (g := F0 m pc ls (S.map (mkV g))) rfl hd (by rw [hr]; exact h3) (by rw [hr]; exact h4) hKn.2.1 rfl fun H1 kC hkC e1 z1 o1 => ?_
          have hA := A.grow (x := (.inr ci, List.replicate N none)) (N := N) (S' := .inr (.inr sh.length) :: S) hz (rc trivial A.rS) h3 h4 (fun _ ty' n' q => by cases q) (fun ci' q => by cases q; exact ⟨by simp [c4], hci⟩) z1 o1 (by
            have ec : cellE g (sh ++ [(.inr ci, List.replicate N none)]) (sz σ sh.length) sh.length = .inr (ci, objV g (sz σ sh.length) (List.replicate N none) sh.length ci) := by
              unfold cellE
              simp
            rw [ec]
            refine ⟨_, hv, (u_born tyf A.1.2.2.2.2.1 c1 hKn hkC e1 c2).to (fun k hk => ?_)⟩
            have hq := objV_get (g := g) (σ := sz σ sh.length) (rs := List.replicate N none) (k := sh.length) (c5 k hk)
            show defaultValue (tyf k) = (objV g (sz σ sh.length) (List.replicate N none) sh.length ci).getD k .null
            rw [List.getD_eq_getElem?_getD, hq]
            rcases c6 k hk with q | q | q | ⟨t, q | ⟨n, q⟩⟩ <;> rw [q] <;> simp [tyC, fldV, sz, hk] <;> rfl)
          have hx2 := h _ _ _ _ _ _ _ _ _ _ _ _ _ _ _ _ hA
          refine W.eq ?_ hx2
          show F0 m (pc + 3) ls (.ref H.size :: _) = F0 m (pc + 3) ls (.ref (adr g sh.length) :: _)
          rw [hz, adr_len hl3]
        · cases hk
      · exact h.elim
    · exact h.elim
  · exact h.elim
end SND5
