/-! TEXT: the class's expression -/
theorem TkR_4 {σ s : Mm} (t : TkR σ s) (h : gi s 37 10 = 4) : -23 ≤ gi s 37 11 ∧ gi s 37 11 ≤ -11 := by
  obtain ⟨-, -, t3⟩ := t
  rcases t3 with z | ⟨a, b1, c, d⟩ | ⟨a, b1, c, d, e⟩ | ⟨a, b1, c, d⟩
  · omega
  · rcases d with d | ⟨d, d' | d'⟩ <;> omega
  · omega
  · rcases d with d | d | d | d
    · omega
    · omega
    · omega
    · have z := sgF_c (gi σ 4 (lB σ (gi σ 37 8).toNat))
      obtain ⟨d1, d2, d3, d4, d5⟩ := d
      rw [← d3] at z
      omega
def T4 (σ : Mm) : Prop := gi σ 37 10 = 4 → -23 ≤ gi σ 37 11 ∧ gi σ 37 11 ≤ -11
theorem jn_in {σ : Mm} (h : T4 σ) (hs : stF (jnS σ) ≠ 0) : -20 ≤ jnS σ ∧ jnS σ ≤ -8 := by
  unfold T4 at h
  have e1 : stF (-21) = 0 := rfl
  have e2 : stF (-22) = 0 := rfl
  have e3 : stF (-23) = 0 := rfl
  have n1 : jnS σ ≠ -21 := fun q => hs (by rw [q]; exact e1)
  have n2 : jnS σ ≠ -22 := fun q => hs (by rw [q]; exact e2)
  have n3 : jnS σ ≠ -23 := fun q => hs (by rw [q]; exact e3)
  unfold jnS jnF at n1 n2 n3 ⊢
  split at n1
  · rename_i q; rw [if_pos q] at n2 n3 ⊢; omega
  · rename_i q
    rw [if_neg q] at n2 n3 ⊢
    split at n1
    · rename_i q2; rw [if_pos q2]; omega
    · rename_i q2
      rw [if_neg q2]
      split at n1
      · rename_i q3; rw [if_pos q3]; omega
      · omega
theorem XI_fr {σ s : Mm} (h : ∀ a i, a = 39 ∨ (a = 33 ∧ i = 0) ∨ (a = 37 ∧ (4 ≤ i ∧ i ≤ 6)) → gi s a i = gi σ a i) (hx : XI σ) : XI s := by
  unfold XI
  have e39 : (fun j => decide (gi s 39 j = -21)) = (fun j => decide (gi σ 39 j = -21)) := funext fun j => by rw [h 39 j (by omega)]
  rw [h 37 4 (by omega), h 33 0 (by omega), h 37 5 (by omega), h 37 6 (by omega), e39]
  exact ⟨hx.1, hx.2.1, hx.2.2.1, hx.2.2.2.1, hx.2.2.2.2.1, hx.2.2.2.2.2.1, fun j hj => by rw [h 39 j (by omega)]; exact hx.2.2.2.2.2.2 j hj⟩
theorem XI_le {σ : Mm} {z : Int} (hx : XI σ) (h : gi σ 37 6 < 64) : XI (leM σ z) := by
  obtain ⟨h1, h2, h3, h4, h5, h6, h7⟩ := hx
  have f : ∀ a i, ¬ (a = 37 ∧ i = 6) → a ≠ 34 → ¬ (a = 33 ∧ i = 0) → gi (leM σ z) a i = gi σ a i := fun a i p q r => by
    unfold leM; rw [gi_si, if_neg r, gi_si, if_neg (fun y => q y.1), gi_si, if_neg p]
  have e6 : gi (leM σ z) 37 6 = gi σ 37 6 + 1 := by unfold leM; rw [gi_si, if_neg (by omega), gi_si, if_neg (by omega), gi_hit]
  have e0 : gi (leM σ z) 33 0 = gi σ 33 0 + 1 := by unfold leM; rw [gi_hit]
  have e39 : (fun j => decide (gi (leM σ z) 39 j = -21)) = (fun j => decide (gi σ 39 j = -21)) := funext fun j => by rw [f 39 j (by omega) (by omega) (by omega)]
  unfold XI
  rw [e39, e6, e0, f 37 4 (by omega) (by omega) (by omega), f 37 5 (by omega) (by omega) (by omega)]
  exact ⟨h1, by omega, h3, by omega, by omega, h6, fun j hj => by rw [f 39 j (by omega) (by omega) (by omega)]; exact h7 j hj⟩
theorem XI_hl {σ : Mm} {z : Int} (hx : XI σ) (h : gi σ 37 6 < 64) (hz : -20 ≤ z ∧ z ≤ -8) : XI (hlM σ z) := by
  obtain ⟨h1, h2, h3, h4, h5, h6, h7⟩ := hx
  have f : ∀ a i, ¬ (a = 37 ∧ i = 6) → ¬ (a = 39 ∧ i = (gi σ 37 4).toNat) → ¬ (a = 37 ∧ i = 4) → gi (hlM σ z) a i = gi σ a i := fun a i p q r => by
    unfold hlM; rw [gi_si, if_neg r, gi_si, if_neg q, gi_si, if_neg p]
  have e6 : gi (hlM σ z) 37 6 = gi σ 37 6 + 1 := by unfold hlM; rw [gi_si, if_neg (by omega), gi_si, if_neg (by omega), gi_hit]
  have e4 : gi (hlM σ z) 37 4 = gi σ 37 4 + 1 := by unfold hlM; rw [gi_hit]
  have eh : gi (hlM σ z) 39 (gi σ 37 4).toNat = z := by unfold hlM; rw [gi_si, if_neg (by omega), gi_hit]
  have ec : cnt (fun j => decide (gi (hlM σ z) 39 j = -21)) ((gi σ 37 4).toNat + 1) = gi σ 37 5 := by
    rw [cnt_s, eh, decide_eq_false (by omega), show b2i false = 0 from rfl, h3, cnt_congr (p' := fun j => decide (gi σ 39 j = -21)) fun q hq => by rw [f 39 q (by omega) (by omega) (by omega)]]
    omega
  unfold XI
  rw [e6, e4, f 33 0 (by omega) (by omega) (by omega), f 37 5 (by omega) (by omega) (by omega), show (gi σ 37 4 + 1).toNat = (gi σ 37 4).toNat + 1 by omega]
  refine ⟨by omega, h2, ec.symm, by omega, by omega, h6, fun j hj => ?_⟩
  by_cases y : j = (gi σ 37 4).toNat
  · rw [y, eh]; omega
  · rw [f 39 j (by omega) (by omega) (by omega)]; exact h7 j (by omega)
theorem XI_op {σ : Mm} (hx : XI σ) (h : gi σ 37 5 < 8) : XI (opM σ) := by
  obtain ⟨h1, h2, h3, h4, h5, h6, h7⟩ := hx
  have f : ∀ a i, ¬ (a = 37 ∧ i = 5) → ¬ (a = 39 ∧ i = (gi σ 37 4).toNat) → ¬ (a = 37 ∧ i = 4) → gi (opM σ) a i = gi σ a i := fun a i p q r => by
    unfold opM; rw [gi_si, if_neg r, gi_si, if_neg q, gi_si, if_neg p]
  have e6 : gi (opM σ) 37 5 = gi σ 37 5 + 1 := by unfold opM; rw [gi_si, if_neg (by omega), gi_si, if_neg (by omega), gi_hit]
  have e4 : gi (opM σ) 37 4 = gi σ 37 4 + 1 := by unfold opM; rw [gi_hit]
  have eh : gi (opM σ) 39 (gi σ 37 4).toNat = -21 := by unfold opM; rw [gi_si, if_neg (by omega), gi_hit]
  have ec : cnt (fun j => decide (gi (opM σ) 39 j = -21)) ((gi σ 37 4).toNat + 1) = gi σ 37 5 + 1 := by
    rw [cnt_s, eh, decide_eq_true rfl, show b2i true = 1 from rfl, h3, cnt_congr (p' := fun j => decide (gi σ 39 j = -21)) fun q hq => by rw [f 39 q (by omega) (by omega) (by omega)]]
  unfold XI
  rw [e6, e4, f 33 0 (by omega) (by omega) (by omega), f 37 6 (by omega) (by omega) (by omega), show (gi σ 37 4 + 1).toNat = (gi σ 37 4).toNat + 1 by omega]
  refine ⟨by omega, h2, ec.symm, by omega, by omega, by omega, fun j hj => ?_⟩
  by_cases y : j = (gi σ 37 4).toNat
  · rw [y, eh]; omega
  · rw [f 39 j (by omega) (by omega) (by omega)]; exact h7 j (by omega)
theorem stF_0 {x : Int} (h : -21 ≤ x ∧ x ≤ -8) (hs : stF x < 1) : x = -21 := by
  refine Classical.byContradiction fun q => ?_
  unfold stF at hs
  (repeat' split at hs) <;> omega
/-- behind all that goes ahead of a bracket the bracket lies on top -/
theorem top_op {σ : Mm} {t : Nat} (hx : XI σ) (h : Rls 1 σ t) (ho : 0 < gi σ 37 5) : (t : Int) < gi σ 37 4 ∧ gi σ 39 ((gi σ 37 4).toNat - 1 - t) = -21 := by
  have c := Rls_cnt (by omega) hx t h.1 h.2.1
  have z := cnt_in (fun j => decide (gi σ 39 j = -21)) ((gi σ 37 4).toNat - t)
  have h1 := h.1
  have hlt : (t : Int) < gi σ 37 4 := by omega
  refine ⟨hlt, ?_⟩
  have := h.2.2.resolve_left (by omega)
  exact stF_0 (hx.2.2.2.2.2.2 _ (by omega)) this
theorem XI_cl {σ : Mm} {t : Nat} (hx : XI σ) (h : Rls 1 σ t) (ho : 0 < gi σ 37 5) : XI (clM (popM σ t)) := by
  obtain ⟨g1, g2⟩ := top_op hx h ho
  have hp := XI_pop (by omega) hx h
  obtain ⟨h1, h2, h3, h4, h5, h6, h7⟩ := hp
  have f : ∀ a i, ¬ (a = 37 ∧ (i = 4 ∨ i = 5)) → gi (clM (popM σ t)) a i = gi (popM σ t) a i := fun a i p => by
    unfold clM; rw [gi_si, if_neg (by omega), gi_si, if_neg (by omega)]
  have e5 : gi (clM (popM σ t)) 37 5 = gi (popM σ t) 37 5 - 1 := by unfold clM; rw [gi_hit]
  have e4 : gi (clM (popM σ t)) 37 4 = gi (popM σ t) 37 4 - 1 := by unfold clM; rw [gi_si, if_neg (by omega), gi_hit]
  have m4 : gi (popM σ t) 37 4 = gi σ 37 4 - (t : Int) := gp_4
  have ec : cnt (fun j => decide (gi (clM (popM σ t)) 39 j = -21)) (gi (popM σ t) 37 4 - 1).toNat = gi (popM σ t) 37 5 - 1 := by
    rw [show (gi (popM σ t) 37 4).toNat = (gi (popM σ t) 37 4 - 1).toNat + 1 by omega, cnt_s] at h3
    have : gi (popM σ t) 39 (gi (popM σ t) 37 4 - 1).toNat = -21 := by
      rw [gp_o (by omega), show (gi (popM σ t) 37 4 - 1).toNat = (gi σ 37 4).toNat - 1 - t by omega]; exact g2
    rw [this, decide_eq_true rfl, show b2i true = 1 from rfl] at h3
    rw [h3, cnt_congr (p' := fun j => decide (gi (popM σ t) 39 j = -21)) fun q hq => by rw [f 39 q (by omega)]]
    omega
  unfold XI
  rw [e4, e5, f 33 0 (by omega), f 37 6 (by omega)]
  exact ⟨by omega, h2, ec.symm, by omega, h5, by omega, fun j hj => by rw [f 39 j (by omega)]; exact h7 j (by omega)⟩
def sto (b : Int) (σ : Mm) : Prop := b = 0 ∧ gi σ 37 5 = 0 ∧ gi σ 37 10 = 4 ∧ gi σ 37 11 = -23
def XS (b : Int) (σ : Mm) (b' : Int) (s : Mm) : Prop := ¬ sto b σ ∧ XI σ ∧ T4 σ ∧ gi σ 37 12 = 0 ∧ ∃ t, ((b = 1 ∧ MsO σ b' t) ∨ (b = 0 ∧ MjO σ b' t)) ∧ TkR t s
def XZ (b : Int) (σ : Mm) (w : Int) : Prop := ¬ sto b σ ∧ XI σ ∧ T4 σ ∧ gi σ 37 12 = 0 ∧ ((b = 1 ∧ XF1 σ w) ∨ (b = 0 ∧ XF0 σ w))
def StX (b : Int) (σ : Mm) (b' : Int) (s : Mm) : Prop := ∀ P : Int → Mm → Prop, P b σ → (∀ b1 s1 b2 s2, P b1 s1 → XS b1 s1 b2 s2 → P b2 s2) → P b' s
theorem StX_rf (b : Int) (σ : Mm) : StX b σ b σ := fun _ h _ => h
theorem StX_st {b b' b'' : Int} {σ s s' : Mm} (h : StX b σ b' s) (k : XS b' s b'' s') : StX b σ b'' s' := fun P p q => q b' s b'' s' (h P p q) k
def iniM (σ : Mm) : Mm := si (si σ 37 4 0) 37 5 0
def kX (σ s : Mm) : Prop := ∀ a i, ¬ (a = 33 ∨ a = 34 ∨ a = 39 ∨ (a = 37 ∧ ((4 ≤ i ∧ i ≤ 6) ∨ (8 ≤ i ∧ i ≤ 13)))) → gi s a i = gi σ a i
def ExC (σ s : Mm) : Prop := (∃ b' σ', StX 1 (iniM σ) b' σ' ∧ ((gi s 37 12 = 0 ∧ sto b' σ' ∧ XI σ' ∧ gi σ' 37 12 = 0 ∧ PE s (popM σ' (gi σ' 37 4).toNat) ∧ Rls 1 σ' (gi σ' 37 4).toNat) ∨ (∃ w, w ≠ 0 ∧ XZ b' σ' w ∧ gi s 37 12 = w ∧ gi s 37 13 = gi σ' 37 9))) ∧ Lx s ∧ kX σ s ∧ gi σ 37 9 ≤ gi s 37 8
theorem Lx_eq {σ s : Mm} (h : Lx σ) (c : ∀ a i, a = 38 ∨ (a = 37 ∧ (i = 7 ∨ i = 8)) → gi s a i = gi σ a i) : Lx s := by
  unfold Lx
  rw [c 37 7 (by omega), c 37 8 (by omega)]
  exact ⟨h.1, fun i hi => by rw [c 38 i (by omega)]; exact h.2 i hi⟩
theorem MO_f {σ t : Mm} {v : Int} (h : MsO σ v t ∨ MjO σ v t) : ∀ a i, ¬ (a = 33 ∨ a = 34 ∨ a = 39 ∨ (a = 37 ∧ (4 ≤ i ∧ i ≤ 6))) → gi t a i = gi σ a i := by
  intro a i p
  rcases h with h | h
  · rcases h with ⟨-, -, z, -, h⟩ | ⟨-, -, -, -, -, h⟩ | ⟨-, -, -, -, h⟩
    · rw [h]; unfold leM; rw [gi_si, if_neg (by omega), gi_si, if_neg (by omega), gi_si, if_neg (by omega)]
    · rw [h]; unfold hlM; rw [gi_si, if_neg (by omega), gi_si, if_neg (by omega), gi_si, if_neg (by omega)]
    · rw [h]; unfold opM; rw [gi_si, if_neg (by omega), gi_si, if_neg (by omega), gi_si, if_neg (by omega)]
  · rcases h with ⟨-, -, u, -, h⟩ | ⟨-, -, -, -, u, -, -, h⟩
    · rw [h]; unfold clM; rw [gi_si, if_neg (by omega), gi_si, if_neg (by omega), gp_o (by omega)]
    · rw [h]; unfold hlM; rw [gi_si, if_neg (by omega), gi_si, if_neg (by omega), gi_si, if_neg (by omega), gp_o (by omega)]
theorem MO_XI {σ t : Mm} {v : Int} (hx : XI σ) (h4 : T4 σ) (h : MsO σ v t ∨ MjO σ v t) : XI t ∧ (v = 0 ∨ v = 1) := by
  rcases h with h | h
  · rcases h with ⟨e, q, z, -, h⟩ | ⟨e, q, -, -, -, h⟩ | ⟨e, -, -, q, h⟩
    · exact ⟨XI_pe h (XI_le hx q), Or.inl e⟩
    · exact ⟨XI_pe h (XI_hl hx q (by omega)), Or.inr e⟩
    · exact ⟨XI_pe h (XI_op hx q), Or.inr e⟩
  · rcases h with ⟨e, c, u, r, h⟩ | ⟨e, -, q, n, u, r, -, h⟩
    · exact ⟨XI_pe h (XI_cl hx r c.2.2), Or.inl e⟩
    · have hm : 1 ≤ lsF (stF (jnS σ)) := by
        have := stF_in (jnS σ)
        unfold lsF; split <;> omega
      exact ⟨XI_pe h (XI_hl (XI_pop hm hx r) (by rw [gp_o (by omega)]; exact q) (jn_in h4 n)), Or.inr e⟩
theorem v_rX_0 {n : Nat}   {σ : Mm} {P : Mm → Prop} (l1 : ∀ t1 : Mm, t1 = si σ 37 4 (0 : Int) → ∀ t2 : Mm, t2 = si t1 37 5 (0 : Int) → R 53 14 [some (vr 37), some (vi 1), some (vi 0)] [] (shF n) 0 0 t2 (Qv (shF n) P)) : Cv 53 [vr 37] (shF n) σ P :=
  show R 53 0 [some (vr 37), none, none] [] (shF n) 0 0 σ (Qv (shF n) P) from wpK_R 11 [14] ((l1 _ rfl _ rfl))
theorem v_rX_14 {n : Nat}  (b : Int) (k : Nat) {σ : Mm} {P : Mm → Prop} (o1 : (k : Int) < (700 : Int) → (gi σ 37 12) = (0 : Int) → b ≠ (0 : Int) → b = (0 : Int) → XI σ) (o2 : (k : Int) < (700 : Int) → (gi σ 37 12) = (0 : Int) → b ≠ (0 : Int) → b = (0 : Int) → (gi σ 37 12 = 0)) (o3 : (k : Int) < (700 : Int) → (gi σ 37 12) = (0 : Int) → b ≠ (0 : Int) → b = (0 : Int) → ∀ (v5 : Int) (s6 : Mm), MjR σ v5 s6 → Lx s6) (o4 : (k : Int) < (700 : Int) → (gi σ 37 12) = (0 : Int) → b ≠ (0 : Int) → b = (0 : Int) → ∀ (v5 : Int) (s6 : Mm), MjR σ v5 s6 → ∀ s9 : Mm, TkR s6 s9 → rg ((k : Int) + 1)) (o5 : (k : Int) < (700 : Int) → (gi σ 37 12) = (0 : Int) → b ≠ (0 : Int) → b ≠ (0 : Int) → XI σ) (o6 : (k : Int) < (700 : Int) → (gi σ 37 12) = (0 : Int) → b ≠ (0 : Int) → b ≠ (0 : Int) → (gi σ 37 12 = 0)) (o7 : (k : Int) < (700 : Int) → (gi σ 37 12) = (0 : Int) → b ≠ (0 : Int) → b ≠ (0 : Int) → (gi σ 37 10 = 1 → 0 ≤ gi σ 37 11 ∧ gi σ 37 11 < 19)) (o8 : (k : Int) < (700 : Int) → (gi σ 37 12) = (0 : Int) → b ≠ (0 : Int) → b ≠ (0 : Int) → ∀ (v12 : Int) (s13 : Mm), MsR σ v12 s13 → Lx s13) (o9 : (k : Int) < (700 : Int) → (gi σ 37 12) = (0 : Int) → b ≠ (0 : Int) → b ≠ (0 : Int) → ∀ (v12 : Int) (s13 : Mm), MsR σ v12 s13 → ∀ s16 : Mm, TkR s13 s16 → rg ((k : Int) + 1)) (o10 : (k : Int) < (700 : Int) → (gi σ 37 12) = (0 : Int) → b = (0 : Int) → (gi σ 37 5) ≠ (0 : Int) → b = (0 : Int) → XI σ) (o11 : (k : Int) < (700 : Int) → (gi σ 37 12) = (0 : Int) → b = (0 : Int) → (gi σ 37 5) ≠ (0 : Int) → b = (0 : Int) → (gi σ 37 12 = 0)) (o12 : (k : Int) < (700 : Int) → (gi σ 37 12) = (0 : Int) → b = (0 : Int) → (gi σ 37 5) ≠ (0 : Int) → b = (0 : Int) → ∀ (v21 : Int) (s22 : Mm), MjR σ v21 s22 → Lx s22) (o13 : (k : Int) < (700 : Int) → (gi σ 37 12) = (0 : Int) → b = (0 : Int) → (gi σ 37 5) ≠ (0 : Int) → b = (0 : Int) → ∀ (v21 : Int) (s22 : Mm), MjR σ v21 s22 → ∀ s25 : Mm, TkR s22 s25 → rg ((k : Int) + 1)) (o14 : (k : Int) < (700 : Int) → (gi σ 37 12) = (0 : Int) → b = (0 : Int) → (gi σ 37 5) ≠ (0 : Int) → b ≠ (0 : Int) → XI σ) (o15 : (k : Int) < (700 : Int) → (gi σ 37 12) = (0 : Int) → b = (0 : Int) → (gi σ 37 5) ≠ (0 : Int) → b ≠ (0 : Int) → (gi σ 37 12 = 0)) (o16 : (k : Int) < (700 : Int) → (gi σ 37 12) = (0 : Int) → b = (0 : Int) → (gi σ 37 5) ≠ (0 : Int) → b ≠ (0 : Int) → (gi σ 37 10 = 1 → 0 ≤ gi σ 37 11 ∧ gi σ 37 11 < 19)) (o17 : (k : Int) < (700 : Int) → (gi σ 37 12) = (0 : Int) → b = (0 : Int) → (gi σ 37 5) ≠ (0 : Int) → b ≠ (0 : Int) → ∀ (v28 : Int) (s29 : Mm), MsR σ v28 s29 → Lx s29) (o18 : (k : Int) < (700 : Int) → (gi σ 37 12) = (0 : Int) → b = (0 : Int) → (gi σ 37 5) ≠ (0 : Int) → b ≠ (0 : Int) → ∀ (v28 : Int) (s29 : Mm), MsR σ v28 s29 → ∀ s32 : Mm, TkR s29 s32 → rg ((k : Int) + 1)) (o19 : (k : Int) < (700 : Int) → (gi σ 37 12) = (0 : Int) → b = (0 : Int) → (gi σ 37 5) = (0 : Int) → (gi σ 37 10) ≠ (4 : Int) → b = (0 : Int) → XI σ) (o20 : (k : Int) < (700 : Int) → (gi σ 37 12) = (0 : Int) → b = (0 : Int) → (gi σ 37 5) = (0 : Int) → (gi σ 37 10) ≠ (4 : Int) → b = (0 : Int) → (gi σ 37 12 = 0)) (o21 : (k : Int) < (700 : Int) → (gi σ 37 12) = (0 : Int) → b = (0 : Int) → (gi σ 37 5) = (0 : Int) → (gi σ 37 10) ≠ (4 : Int) → b = (0 : Int) → ∀ (v37 : Int) (s38 : Mm), MjR σ v37 s38 → Lx s38) (o22 : (k : Int) < (700 : Int) → (gi σ 37 12) = (0 : Int) → b = (0 : Int) → (gi σ 37 5) = (0 : Int) → (gi σ 37 10) ≠ (4 : Int) → b = (0 : Int) → ∀ (v37 : Int) (s38 : Mm), MjR σ v37 s38 → ∀ s41 : Mm, TkR s38 s41 → rg ((k : Int) + 1)) (o23 : (k : Int) < (700 : Int) → (gi σ 37 12) = (0 : Int) → b = (0 : Int) → (gi σ 37 5) = (0 : Int) → (gi σ 37 10) ≠ (4 : Int) → b ≠ (0 : Int) → XI σ) (o24 : (k : Int) < (700 : Int) → (gi σ 37 12) = (0 : Int) → b = (0 : Int) → (gi σ 37 5) = (0 : Int) → (gi σ 37 10) ≠ (4 : Int) → b ≠ (0 : Int) → (gi σ 37 12 = 0)) (o25 : (k : Int) < (700 : Int) → (gi σ 37 12) = (0 : Int) → b = (0 : Int) → (gi σ 37 5) = (0 : Int) → (gi σ 37 10) ≠ (4 : Int) → b ≠ (0 : Int) → (gi σ 37 10 = 1 → 0 ≤ gi σ 37 11 ∧ gi σ 37 11 < 19)) (o26 : (k : Int) < (700 : Int) → (gi σ 37 12) = (0 : Int) → b = (0 : Int) → (gi σ 37 5) = (0 : Int) → (gi σ 37 10) ≠ (4 : Int) → b ≠ (0 : Int) → ∀ (v44 : Int) (s45 : Mm), MsR σ v44 s45 → Lx s45) (o27 : (k : Int) < (700 : Int) → (gi σ 37 12) = (0 : Int) → b = (0 : Int) → (gi σ 37 5) = (0 : Int) → (gi σ 37 10) ≠ (4 : Int) → b ≠ (0 : Int) → ∀ (v44 : Int) (s45 : Mm), MsR σ v44 s45 → ∀ s48 : Mm, TkR s45 s48 → rg ((k : Int) + 1)) (o28 : (k : Int) < (700 : Int) → (gi σ 37 12) = (0 : Int) → b = (0 : Int) → (gi σ 37 5) = (0 : Int) → (gi σ 37 10) = (4 : Int) → (gi σ 37 11) ≠ (-23 : Int) → b = (0 : Int) → XI σ) (o29 : (k : Int) < (700 : Int) → (gi σ 37 12) = (0 : Int) → b = (0 : Int) → (gi σ 37 5) = (0 : Int) → (gi σ 37 10) = (4 : Int) → (gi σ 37 11) ≠ (-23 : Int) → b = (0 : Int) → (gi σ 37 12 = 0)) (o30 : (k : Int) < (700 : Int) → (gi σ 37 12) = (0 : Int) → b = (0 : Int) → (gi σ 37 5) = (0 : Int) → (gi σ 37 10) = (4 : Int) → (gi σ 37 11) ≠ (-23 : Int) → b = (0 : Int) → ∀ (v53 : Int) (s54 : Mm), MjR σ v53 s54 → Lx s54) (o31 : (k : Int) < (700 : Int) → (gi σ 37 12) = (0 : Int) → b = (0 : Int) → (gi σ 37 5) = (0 : Int) → (gi σ 37 10) = (4 : Int) → (gi σ 37 11) ≠ (-23 : Int) → b = (0 : Int) → ∀ (v53 : Int) (s54 : Mm), MjR σ v53 s54 → ∀ s57 : Mm, TkR s54 s57 → rg ((k : Int) + 1)) (o32 : (k : Int) < (700 : Int) → (gi σ 37 12) = (0 : Int) → b = (0 : Int) → (gi σ 37 5) = (0 : Int) → (gi σ 37 10) = (4 : Int) → (gi σ 37 11) ≠ (-23 : Int) → b ≠ (0 : Int) → XI σ) (o33 : (k : Int) < (700 : Int) → (gi σ 37 12) = (0 : Int) → b = (0 : Int) → (gi σ 37 5) = (0 : Int) → (gi σ 37 10) = (4 : Int) → (gi σ 37 11) ≠ (-23 : Int) → b ≠ (0 : Int) → (gi σ 37 12 = 0)) (o34 : (k : Int) < (700 : Int) → (gi σ 37 12) = (0 : Int) → b = (0 : Int) → (gi σ 37 5) = (0 : Int) → (gi σ 37 10) = (4 : Int) → (gi σ 37 11) ≠ (-23 : Int) → b ≠ (0 : Int) → (gi σ 37 10 = 1 → 0 ≤ gi σ 37 11 ∧ gi σ 37 11 < 19)) (o35 : (k : Int) < (700 : Int) → (gi σ 37 12) = (0 : Int) → b = (0 : Int) → (gi σ 37 5) = (0 : Int) → (gi σ 37 10) = (4 : Int) → (gi σ 37 11) ≠ (-23 : Int) → b ≠ (0 : Int) → ∀ (v60 : Int) (s61 : Mm), MsR σ v60 s61 → Lx s61) (o36 : (k : Int) < (700 : Int) → (gi σ 37 12) = (0 : Int) → b = (0 : Int) → (gi σ 37 5) = (0 : Int) → (gi σ 37 10) = (4 : Int) → (gi σ 37 11) ≠ (-23 : Int) → b ≠ (0 : Int) → ∀ (v60 : Int) (s61 : Mm), MsR σ v60 s61 → ∀ s64 : Mm, TkR s61 s64 → rg ((k : Int) + 1)) (l1 : (700 : Int) ≤ (k : Int) → R 53 85 [some (vr 37), some (vi b), some (vi (k : Int))] [] (shF n) 0 0 σ (Qv (shF n) P)) (l2 : (k : Int) < (700 : Int) → (gi σ 37 12) ≠ (0 : Int) → R 53 85 [some (vr 37), some (vi b), some (vi (k : Int))] [] (shF n) 0 0 σ (Qv (shF n) P)) (l3 : (k : Int) < (700 : Int) → (gi σ 37 12) = (0 : Int) → b ≠ (0 : Int) → b = (0 : Int) → ∀ (v5 : Int) (s6 : Mm), MjR σ v5 s6 → ∀ s9 : Mm, TkR s6 s9 → R 53 14 [some (vr 37), some (vi v5), some (vi ((k : Int) + 1))] [] (shF n) 0 0 s9 (Qv (shF n) P)) (l4 : (k : Int) < (700 : Int) → (gi σ 37 12) = (0 : Int) → b ≠ (0 : Int) → b ≠ (0 : Int) → ∀ (v12 : Int) (s13 : Mm), MsR σ v12 s13 → ∀ s16 : Mm, TkR s13 s16 → R 53 14 [some (vr 37), some (vi v12), some (vi ((k : Int) + 1))] [] (shF n) 0 0 s16 (Qv (shF n) P)) (l5 : (k : Int) < (700 : Int) → (gi σ 37 12) = (0 : Int) → b = (0 : Int) → (gi σ 37 5) ≠ (0 : Int) → b = (0 : Int) → ∀ (v21 : Int) (s22 : Mm), MjR σ v21 s22 → ∀ s25 : Mm, TkR s22 s25 → R 53 14 [some (vr 37), some (vi v21), some (vi ((k : Int) + 1))] [] (shF n) 0 0 s25 (Qv (shF n) P)) (l6 : (k : Int) < (700 : Int) → (gi σ 37 12) = (0 : Int) → b = (0 : Int) → (gi σ 37 5) ≠ (0 : Int) → b ≠ (0 : Int) → ∀ (v28 : Int) (s29 : Mm), MsR σ v28 s29 → ∀ s32 : Mm, TkR s29 s32 → R 53 14 [some (vr 37), some (vi v28), some (vi ((k : Int) + 1))] [] (shF n) 0 0 s32 (Qv (shF n) P)) (l7 : (k : Int) < (700 : Int) → (gi σ 37 12) = (0 : Int) → b = (0 : Int) → (gi σ 37 5) = (0 : Int) → (gi σ 37 10) ≠ (4 : Int) → b = (0 : Int) → ∀ (v37 : Int) (s38 : Mm), MjR σ v37 s38 → ∀ s41 : Mm, TkR s38 s41 → R 53 14 [some (vr 37), some (vi v37), some (vi ((k : Int) + 1))] [] (shF n) 0 0 s41 (Qv (shF n) P)) (l8 : (k : Int) < (700 : Int) → (gi σ 37 12) = (0 : Int) → b = (0 : Int) → (gi σ 37 5) = (0 : Int) → (gi σ 37 10) ≠ (4 : Int) → b ≠ (0 : Int) → ∀ (v44 : Int) (s45 : Mm), MsR σ v44 s45 → ∀ s48 : Mm, TkR s45 s48 → R 53 14 [some (vr 37), some (vi v44), some (vi ((k : Int) + 1))] [] (shF n) 0 0 s48 (Qv (shF n) P)) (l9 : (k : Int) < (700 : Int) → (gi σ 37 12) = (0 : Int) → b = (0 : Int) → (gi σ 37 5) = (0 : Int) → (gi σ 37 10) = (4 : Int) → (gi σ 37 11) ≠ (-23 : Int) → b = (0 : Int) → ∀ (v53 : Int) (s54 : Mm), MjR σ v53 s54 → ∀ s57 : Mm, TkR s54 s57 → R 53 14 [some (vr 37), some (vi v53), some (vi ((k : Int) + 1))] [] (shF n) 0 0 s57 (Qv (shF n) P)) (l10 : (k : Int) < (700 : Int) → (gi σ 37 12) = (0 : Int) → b = (0 : Int) → (gi σ 37 5) = (0 : Int) → (gi σ 37 10) = (4 : Int) → (gi σ 37 11) ≠ (-23 : Int) → b ≠ (0 : Int) → ∀ (v60 : Int) (s61 : Mm), MsR σ v60 s61 → ∀ s64 : Mm, TkR s61 s64 → R 53 14 [some (vr 37), some (vi v60), some (vi ((k : Int) + 1))] [] (shF n) 0 0 s64 (Qv (shF n) P)) (l11 : (k : Int) < (700 : Int) → (gi σ 37 12) = (0 : Int) → b = (0 : Int) → (gi σ 37 5) = (0 : Int) → (gi σ 37 10) = (4 : Int) → (gi σ 37 11) = (-23 : Int) → R 53 85 [some (vr 37), some (vi b), some (vi (k : Int))] [] (shF n) 0 0 σ (Qv (shF n) P)) : R 53 14 [some (vr 37), some (vi b), some (vi (k : Int))] [] (shF n) 0 0 σ (Qv (shF n) P) :=
  wpK_R 30 [14, 85] (And.intro (fun q1 => (l1 q1)) (fun q1 => And.intro (fun q2 => (l2 (Int.not_le.mp q1) q2)) (fun q2 => And.intro (fun q3 => And.intro (fun q4 => (c_mJ  (o1 (Int.not_le.mp q1) (Classical.not_not.mp q2) q3 q4) (o2 (Int.not_le.mp q1) (Classical.not_not.mp q2) q3 q4) (fun v5 s6 h7 => (c_stp  (o3 (Int.not_le.mp q1) (Classical.not_not.mp q2) q3 q4 v5 s6 h7) (fun s9 h10 => (have k11 := (o4 (Int.not_le.mp q1) (Classical.not_not.mp q2) q3 q4 v5 s6 h7 s9 h10); And.intro k11 ((l3 (Int.not_le.mp q1) (Classical.not_not.mp q2) q3 q4 v5 s6 h7 s9 h10)))))))) (fun q4 => (c_mS  (o5 (Int.not_le.mp q1) (Classical.not_not.mp q2) q3 q4) (o6 (Int.not_le.mp q1) (Classical.not_not.mp q2) q3 q4) (o7 (Int.not_le.mp q1) (Classical.not_not.mp q2) q3 q4) (fun v12 s13 h14 => (c_stp  (o8 (Int.not_le.mp q1) (Classical.not_not.mp q2) q3 q4 v12 s13 h14) (fun s16 h17 => (have k18 := (o9 (Int.not_le.mp q1) (Classical.not_not.mp q2) q3 q4 v12 s13 h14 s16 h17); And.intro k18 ((l4 (Int.not_le.mp q1) (Classical.not_not.mp q2) q3 q4 v12 s13 h14 s16 h17))))))))) (fun q3 => And.intro (fun q19 => And.intro (fun q20 => (c_mJ  (o10 (Int.not_le.mp q1) (Classical.not_not.mp q2) (Classical.not_not.mp q3) q19 q20) (o11 (Int.not_le.mp q1) (Classical.not_not.mp q2) (Classical.not_not.mp q3) q19 q20) (fun v21 s22 h23 => (c_stp  (o12 (Int.not_le.mp q1) (Classical.not_not.mp q2) (Classical.not_not.mp q3) q19 q20 v21 s22 h23) (fun s25 h26 => (have k27 := (o13 (Int.not_le.mp q1) (Classical.not_not.mp q2) (Classical.not_not.mp q3) q19 q20 v21 s22 h23 s25 h26); And.intro k27 ((l5 (Int.not_le.mp q1) (Classical.not_not.mp q2) (Classical.not_not.mp q3) q19 q20 v21 s22 h23 s25 h26)))))))) (fun q20 => (c_mS  (o14 (Int.not_le.mp q1) (Classical.not_not.mp q2) (Classical.not_not.mp q3) q19 q20) (o15 (Int.not_le.mp q1) (Classical.not_not.mp q2) (Classical.not_not.mp q3) q19 q20) (o16 (Int.not_le.mp q1) (Classical.not_not.mp q2) (Classical.not_not.mp q3) q19 q20) (fun v28 s29 h30 => (c_stp  (o17 (Int.not_le.mp q1) (Classical.not_not.mp q2) (Classical.not_not.mp q3) q19 q20 v28 s29 h30) (fun s32 h33 => (have k34 := (o18 (Int.not_le.mp q1) (Classical.not_not.mp q2) (Classical.not_not.mp q3) q19 q20 v28 s29 h30 s32 h33); And.intro k34 ((l6 (Int.not_le.mp q1) (Classical.not_not.mp q2) (Classical.not_not.mp q3) q19 q20 v28 s29 h30 s32 h33))))))))) (fun q19 => And.intro (fun q35 => And.intro (fun q36 => (c_mJ  (o19 (Int.not_le.mp q1) (Classical.not_not.mp q2) (Classical.not_not.mp q3) (Classical.not_not.mp q19) q35 q36) (o20 (Int.not_le.mp q1) (Classical.not_not.mp q2) (Classical.not_not.mp q3) (Classical.not_not.mp q19) q35 q36) (fun v37 s38 h39 => (c_stp  (o21 (Int.not_le.mp q1) (Classical.not_not.mp q2) (Classical.not_not.mp q3) (Classical.not_not.mp q19) q35 q36 v37 s38 h39) (fun s41 h42 => (have k43 := (o22 (Int.not_le.mp q1) (Classical.not_not.mp q2) (Classical.not_not.mp q3) (Classical.not_not.mp q19) q35 q36 v37 s38 h39 s41 h42); And.intro k43 ((l7 (Int.not_le.mp q1) (Classical.not_not.mp q2) (Classical.not_not.mp q3) (Classical.not_not.mp q19) q35 q36 v37 s38 h39 s41 h42)))))))) (fun q36 => (c_mS  (o23 (Int.not_le.mp q1) (Classical.not_not.mp q2) (Classical.not_not.mp q3) (Classical.not_not.mp q19) q35 q36) (o24 (Int.not_le.mp q1) (Classical.not_not.mp q2) (Classical.not_not.mp q3) (Classical.not_not.mp q19) q35 q36) (o25 (Int.not_le.mp q1) (Classical.not_not.mp q2) (Classical.not_not.mp q3) (Classical.not_not.mp q19) q35 q36) (fun v44 s45 h46 => (c_stp  (o26 (Int.not_le.mp q1) (Classical.not_not.mp q2) (Classical.not_not.mp q3) (Classical.not_not.mp q19) q35 q36 v44 s45 h46) (fun s48 h49 => (have k50 := (o27 (Int.not_le.mp q1) (Classical.not_not.mp q2) (Classical.not_not.mp q3) (Classical.not_not.mp q19) q35 q36 v44 s45 h46 s48 h49); And.intro k50 ((l8 (Int.not_le.mp q1) (Classical.not_not.mp q2) (Classical.not_not.mp q3) (Classical.not_not.mp q19) q35 q36 v44 s45 h46 s48 h49))))))))) (fun q35 => And.intro (fun q51 => And.intro (fun q52 => (c_mJ  (o28 (Int.not_le.mp q1) (Classical.not_not.mp q2) (Classical.not_not.mp q3) (Classical.not_not.mp q19) (Classical.not_not.mp q35) q51 q52) (o29 (Int.not_le.mp q1) (Classical.not_not.mp q2) (Classical.not_not.mp q3) (Classical.not_not.mp q19) (Classical.not_not.mp q35) q51 q52) (fun v53 s54 h55 => (c_stp  (o30 (Int.not_le.mp q1) (Classical.not_not.mp q2) (Classical.not_not.mp q3) (Classical.not_not.mp q19) (Classical.not_not.mp q35) q51 q52 v53 s54 h55) (fun s57 h58 => (have k59 := (o31 (Int.not_le.mp q1) (Classical.not_not.mp q2) (Classical.not_not.mp q3) (Classical.not_not.mp q19) (Classical.not_not.mp q35) q51 q52 v53 s54 h55 s57 h58); And.intro k59 ((l9 (Int.not_le.mp q1) (Classical.not_not.mp q2) (Classical.not_not.mp q3) (Classical.not_not.mp q19) (Classical.not_not.mp q35) q51 q52 v53 s54 h55 s57 h58)))))))) (fun q52 => (c_mS  (o32 (Int.not_le.mp q1) (Classical.not_not.mp q2) (Classical.not_not.mp q3) (Classical.not_not.mp q19) (Classical.not_not.mp q35) q51 q52) (o33 (Int.not_le.mp q1) (Classical.not_not.mp q2) (Classical.not_not.mp q3) (Classical.not_not.mp q19) (Classical.not_not.mp q35) q51 q52) (o34 (Int.not_le.mp q1) (Classical.not_not.mp q2) (Classical.not_not.mp q3) (Classical.not_not.mp q19) (Classical.not_not.mp q35) q51 q52) (fun v60 s61 h62 => (c_stp  (o35 (Int.not_le.mp q1) (Classical.not_not.mp q2) (Classical.not_not.mp q3) (Classical.not_not.mp q19) (Classical.not_not.mp q35) q51 q52 v60 s61 h62) (fun s64 h65 => (have k66 := (o36 (Int.not_le.mp q1) (Classical.not_not.mp q2) (Classical.not_not.mp q3) (Classical.not_not.mp q19) (Classical.not_not.mp q35) q51 q52 v60 s61 h62 s64 h65); And.intro k66 ((l10 (Int.not_le.mp q1) (Classical.not_not.mp q2) (Classical.not_not.mp q3) (Classical.not_not.mp q19) (Classical.not_not.mp q35) q51 q52 v60 s61 h62 s64 h65))))))))) (fun q51 => (l11 (Int.not_le.mp q1) (Classical.not_not.mp q2) (Classical.not_not.mp q3) (Classical.not_not.mp q19) (Classical.not_not.mp q35) (Classical.not_not.mp q51)))))))))
theorem v_rX_85 {n : Nat}  (b : Int) (k : Nat) {σ : Mm} {P : Mm → Prop} (o1 : (1 ≤ (1 : Int))) (o2 : (0 ≤ gi σ 37 4 ∧ gi σ 37 4 ≤ 72)) (o3 : (0 ≤ gi σ 33 0)) (o4 : (gi σ 37 12 = 0 → XI σ)) (l1 : ∀ s2 : Mm, RelS (1 : Int) σ s2 → P s2) : R 53 85 [some (vr 37), some (vi b), some (vi (k : Int))] [] (shF n) 0 0 σ (Qv (shF n) P) :=
  wpK_R 4 [14] ((c_rel  (o1) (o2) (o3) (o4) (fun s2 h3 => And.intro ret0 ⟨rfl, rfl, (l1 s2 h3)⟩)))
theorem c_rX {n : Nat} {σ : Mm} {P : Mm → Prop} (hl : Lx σ) (hti : TI σ) (h4 : T4 σ) (h0 : gi σ 37 12 = 0) (hk : 0 ≤ gi σ 33 0 ∧ gi σ 33 0 ≤ 64 ∧ gi σ 37 6 = gi σ 33 0) (h9 : 1 ≤ gi σ 37 9) (hP : ∀ s, ExC σ s → P s) : Cv 53 [vr 37] (shF n) σ P := by
  have hend : ∀ (b : Int) (k : Nat) (τ s' : Mm) (b' : Int) (w : Int), StX 1 (iniM σ) b' s' → XZ b' s' w → w ≠ 0 → gi τ 37 12 = w → gi τ 37 13 = gi s' 37 9 → Lx τ → kX σ τ → gi σ 37 9 ≤ gi τ 37 8 → (0 ≤ gi τ 37 4 ∧ gi τ 37 4 ≤ 72) → 0 ≤ gi τ 33 0 → R 53 85 [some (vr 37), some (vi b), some (vi (k : Int))] [] (shF n) 0 0 τ (Qv (shF n) P) := fun b k τ s' b' w q1 q2 q3 q4 q5 q6 q7 q8 q9 q10 => by
    refine v_rX_85 b k (by intros; first | omega | exact absurd (by assumption) (by omega)) (by intros; first | omega | exact absurd (by assumption) (by omega)) (by intros; first | omega | exact absurd (by assumption) (by omega)) (by intros; first | omega | exact absurd (by assumption) (by omega)) ?_
    intro s r
    obtain ⟨t, r1, r2, r3⟩ := r
    obtain ⟨r3, r4⟩ := r3 (by omega)
    refine hP s ⟨⟨b', s', q1, Or.inr ⟨w, q3, q2, by rw [r4 37 12 (by omega)]; exact q4, by rw [r4 37 13 (by omega)]; exact q5⟩⟩, Lx_eq q6 (fun a i p => r4 a i (by omega)), fun a i p => ?_, by rw [r4 37 8 (by omega)]; exact q8⟩
    rw [r4 a i (by omega)]; exact q7 a i p
  have hflt : ∀ (b : Int) (k : Nat) (τ s' : Mm) (b' : Int) (w : Int), StX 1 (iniM σ) b' s' → XZ b' s' w → w ≠ 0 → gi τ 37 12 = w → gi τ 37 13 = gi s' 37 9 → Lx τ → kX σ τ → gi σ 37 9 ≤ gi τ 37 8 → (0 ≤ gi τ 37 4 ∧ gi τ 37 4 ≤ 72) → 0 ≤ gi τ 33 0 → R 53 14 [some (vr 37), some (vi b), some (vi (k : Int))] [] (shF n) 0 0 τ (Qv (shF n) P) := fun b k τ s' b' w q1 q2 q3 q4 q5 q6 q7 q8 q9 q10 => by
    refine v_rX_14 b k (by intros; exfalso; omega) (by intros; exfalso; omega) (by intros; exfalso; omega) (by intros; exfalso; omega) (by intros; exfalso; omega) (by intros; exfalso; omega) (by intros; exfalso; omega) (by intros; exfalso; omega) (by intros; exfalso; omega) (by intros; exfalso; omega) (by intros; exfalso; omega) (by intros; exfalso; omega) (by intros; exfalso; omega) (by intros; exfalso; omega) (by intros; exfalso; omega) (by intros; exfalso; omega) (by intros; exfalso; omega) (by intros; exfalso; omega) (by intros; exfalso; omega) (by intros; exfalso; omega) (by intros; exfalso; omega) (by intros; exfalso; omega) (by intros; exfalso; omega) (by intros; exfalso; omega) (by intros; exfalso; omega) (by intros; exfalso; omega) (by intros; exfalso; omega) (by intros; exfalso; omega) (by intros; exfalso; omega) (by intros; exfalso; omega) (by intros; exfalso; omega) (by intros; exfalso; omega) (by intros; exfalso; omega) (by intros; exfalso; omega) (by intros; exfalso; omega) (by intros; exfalso; omega) ?_ ?_ ?_ ?_ ?_ ?_ ?_ ?_ ?_ ?_ ?_
    · intro _; exact hend b k τ s' b' w q1 q2 q3 q4 q5 q6 q7 q8 q9 q10
    · intro _ _; exact hend b k τ s' b' w q1 q2 q3 q4 q5 q6 q7 q8 q9 q10
    all_goals (intros; exfalso; omega)
  refine v_rX_0 ?_
  intro t1 e1 t2 e2
  have et2 : t2 = iniM σ := by rw [e2, e1]; rfl
  have f2 : ∀ a i, ¬ (a = 37 ∧ (i = 4 ∨ i = 5)) → gi (iniM σ) a i = gi σ a i := fun a i p => by unfold iniM; rw [gi_si, if_neg (by omega), gi_si, if_neg (by omega)]
  have i4 : gi (iniM σ) 37 4 = 0 := by unfold iniM; rw [gi_si, if_neg (by omega), gi_hit]
  have i5 : gi (iniM σ) 37 5 = 0 := by unfold iniM; rw [gi_hit]
  have xi0 : XI (iniM σ) := by
    unfold XI
    rw [i4, i5, f2 33 0 (by omega), f2 37 6 (by omega)]
    exact ⟨by omega, by omega, rfl, by omega, by omega, by omega, fun j hj => by omega⟩
  rw [et2]
  refine loopUp (N := 700) (I := fun k => ∀ (b : Int) (τ : Mm), (b = 0 ∨ b = 1) → StX 1 (iniM σ) b τ → XI τ → Lx τ → TI τ → T4 τ → kX σ τ → gi τ 37 12 = 0 → (k : Int) + 1 ≤ gi τ 37 9 → gi σ 37 9 ≤ gi τ 37 9 → R 53 14 [some (vr 37), some (vi b), some (vi (k : Int))] [] (shF n) 0 0 τ (Qv (shF n) P)) (fun k hk ih => ?_) 0 (by omega) 1 (iniM σ) (Or.inr rfl) (StX_rf _ _) xi0 (Lx_eq hl fun a i p => f2 a i (by omega)) ?_ ?_ (fun a i p => f2 a i (by omega)) (by rw [f2 37 12 (by omega)]; exact h0) (by rw [f2 37 9 (by omega)]; omega) (by rw [f2 37 9 (by omega)]; omega)
  · intro b τ hb st xi lx ti t4 kx z0 zk zs
    have b1 := XI_in xi
    have b2 := xi.1
    have b3 := xi.2.1
    have l1 := lx.1
    obtain ⟨ti1, ti2, ti3, ti4, ti5, ti6⟩ := ti
    have hstep : ∀ (v : Int) (t s : Mm), ¬ sto b τ → ((b = 1 ∧ MsO τ v t) ∨ (b = 0 ∧ MjO τ v t)) → TkR t s → R 53 14 [some (vr 37), some (vi v), some (vi ((k : Int) + 1))] [] (shF n) 0 0 s (Qv (shF n) P) := fun v t s ns ho tk => by
      have ho' : MsO τ v t ∨ MjO τ v t := ho.imp (fun q => q.2) (fun q => q.2)
      obtain ⟨xt, hv⟩ := MO_XI xi t4 ho'
      have ft := MO_f ho'
      have lxt : Lx t := Lx_eq lx fun a i p => ft a i (by omega)
      obtain ⟨k1, k2, k3, k4, k5, k6, k7, k8⟩ := Tk_in lxt tk
      have e8 := ft 37 8 (by omega)
      have e12 : gi s 37 12 = 0 := by rw [tk.1 37 12 (by omega), ft 37 12 (by omega)]; exact z0
      have kne : gi τ 37 10 ≠ 0 := fun q => by
        rcases ho' with h | h
        · rcases h with ⟨-, -, z, h, -⟩ | ⟨-, -, h, -⟩ | ⟨-, h, -⟩ <;> omega
        · rcases h with ⟨-, h, -⟩ | ⟨-, -, -, h, -⟩
          · have := h.1; omega
          · refine h ?_
            unfold jnS jnF
            rw [if_neg (by omega), if_neg (by omega), if_neg (by omega)]
            rfl
      have := ti4 kne
      have hk' : (k : Int) < 700 := by omega
      have := ih (by omega) v s hv (StX_st st ⟨ns, xi, t4, z0, t, ho, tk⟩) (XI_fr (fun a i p => tk.1 a i (by omega)) xt) k1 ⟨k4, k3, k5, k6, k7, k8⟩ (TkR_4 tk) (fun a i p => by rw [tk.1 a i (by omega), ft a i (by omega)]; exact kx a i p) e12 (by omega) (by omega)
      exact this
    have hfail : ∀ (v w : Int) (t s : Mm), ¬ sto b τ → w ≠ 0 → ((b = 1 ∧ XF1 τ w) ∨ (b = 0 ∧ XF0 τ w)) → FX w τ t → TkR t s → R 53 14 [some (vr 37), some (vi v), some (vi ((k : Int) + 1))] [] (shF n) 0 0 s (Qv (shF n) P) := fun v w t s ns hw ho f tk => by
      obtain ⟨f1, f2, f3, f4, f5⟩ := f
      have lxt : Lx t := Lx_eq lx fun a i p => f3 a i (by omega) (by omega) (by omega)
      obtain ⟨k1, k2, k3, k4, k5, k6, k7, k8⟩ := Tk_in lxt tk
      have e8 := f3 37 8 (by omega) (by omega) (by omega)
      have := hflt v (k + 1) s τ b w st ⟨ns, xi, t4, z0, ho⟩ hw (by rw [tk.1 37 12 (by omega)]; exact f1) (by rw [tk.1 37 13 (by omega)]; exact f2) k1 (fun a i p => by rw [tk.1 a i (by omega), f3 a i (by omega) (by omega) (by omega)]; exact kx a i p) (by omega) (by rw [tk.1 37 4 (by omega)]; exact f4) (by rw [tk.1 33 0 (by omega)]; exact f5)
      exact this
    have hJ : ∀ (v : Int) (t s : Mm), b = 0 → ¬ sto b τ → MjR τ v t → TkR t s → R 53 14 [some (vr 37), some (vi v), some (vi ((k : Int) + 1))] [] (shF n) 0 0 s (Qv (shF n) P) := fun v t s e ns h tk => by
      rcases h with h | ⟨-, w, hw, hx, hf⟩
      · exact hstep v t s ns (Or.inr ⟨e, h⟩) tk
      · exact hfail v w t s ns hw (Or.inr ⟨e, hx⟩) hf tk
    have hS : ∀ (v : Int) (t s : Mm), b = 1 → ¬ sto b τ → MsR τ v t → TkR t s → R 53 14 [some (vr 37), some (vi v), some (vi ((k : Int) + 1))] [] (shF n) 0 0 s (Qv (shF n) P) := fun v t s e ns h tk => by
      rcases h with h | ⟨-, w, hw, hx, hf⟩
      · exact hstep v t s ns (Or.inl ⟨e, h⟩) tk
      · exact hfail v w t s ns hw (Or.inl ⟨e, hx⟩) hf tk
    have hLt : ∀ v t, MjR τ v t ∨ MsR τ v t → Lx t := fun v t h => by
      rcases h with (h | ⟨-, w, hw, hx, hf⟩) | (h | ⟨-, w, hw, hx, hf⟩)
      · exact Lx_eq lx fun a i p => MO_f (Or.inr h) a i (by omega)
      · exact Lx_eq lx fun a i p => hf.2.2.1 a i (by omega) (by omega) (by omega)
      · exact Lx_eq lx fun a i p => MO_f (Or.inl h) a i (by omega)
      · exact Lx_eq lx fun a i p => hf.2.2.1 a i (by omega) (by omega) (by omega)
    refine v_rX_14 b k (by intros; first | omega | exact xi | (unfold rg; omega) | exact hLt _ _ (Or.inl (by assumption)) | exact hLt _ _ (Or.inr (by assumption))) (by intros; first | omega | exact xi | (unfold rg; omega) | exact hLt _ _ (Or.inl (by assumption)) | exact hLt _ _ (Or.inr (by assumption))) (by intros; first | omega | exact xi | (unfold rg; omega) | exact hLt _ _ (Or.inl (by assumption)) | exact hLt _ _ (Or.inr (by assumption))) (by intros; first | omega | exact xi | (unfold rg; omega) | exact hLt _ _ (Or.inl (by assumption)) | exact hLt _ _ (Or.inr (by assumption))) (by intros; first | omega | exact xi | (unfold rg; omega) | exact hLt _ _ (Or.inl (by assumption)) | exact hLt _ _ (Or.inr (by assumption))) (by intros; first | omega | exact xi | (unfold rg; omega) | exact hLt _ _ (Or.inl (by assumption)) | exact hLt _ _ (Or.inr (by assumption))) (by intros; first | omega | exact xi | (unfold rg; omega) | exact hLt _ _ (Or.inl (by assumption)) | exact hLt _ _ (Or.inr (by assumption))) (by intros; first | omega | exact xi | (unfold rg; omega) | exact hLt _ _ (Or.inl (by assumption)) | exact hLt _ _ (Or.inr (by assumption))) (by intros; first | omega | exact xi | (unfold rg; omega) | exact hLt _ _ (Or.inl (by assumption)) | exact hLt _ _ (Or.inr (by assumption))) (by intros; first | omega | exact xi | (unfold rg; omega) | exact hLt _ _ (Or.inl (by assumption)) | exact hLt _ _ (Or.inr (by assumption))) (by intros; first | omega | exact xi | (unfold rg; omega) | exact hLt _ _ (Or.inl (by assumption)) | exact hLt _ _ (Or.inr (by assumption))) (by intros; first | omega | exact xi | (unfold rg; omega) | exact hLt _ _ (Or.inl (by assumption)) | exact hLt _ _ (Or.inr (by assumption))) (by intros; first | omega | exact xi | (unfold rg; omega) | exact hLt _ _ (Or.inl (by assumption)) | exact hLt _ _ (Or.inr (by assumption))) (by intros; first | omega | exact xi | (unfold rg; omega) | exact hLt _ _ (Or.inl (by assumption)) | exact hLt _ _ (Or.inr (by assumption))) (by intros; first | omega | exact xi | (unfold rg; omega) | exact hLt _ _ (Or.inl (by assumption)) | exact hLt _ _ (Or.inr (by assumption))) (by intros; first | omega | exact xi | (unfold rg; omega) | exact hLt _ _ (Or.inl (by assumption)) | exact hLt _ _ (Or.inr (by assumption))) (by intros; first | omega | exact xi | (unfold rg; omega) | exact hLt _ _ (Or.inl (by assumption)) | exact hLt _ _ (Or.inr (by assumption))) (by intros; first | omega | exact xi | (unfold rg; omega) | exact hLt _ _ (Or.inl (by assumption)) | exact hLt _ _ (Or.inr (by assumption))) (by intros; first | omega | exact xi | (unfold rg; omega) | exact hLt _ _ (Or.inl (by assumption)) | exact hLt _ _ (Or.inr (by assumption))) (by intros; first | omega | exact xi | (unfold rg; omega) | exact hLt _ _ (Or.inl (by assumption)) | exact hLt _ _ (Or.inr (by assumption))) (by intros; first | omega | exact xi | (unfold rg; omega) | exact hLt _ _ (Or.inl (by assumption)) | exact hLt _ _ (Or.inr (by assumption))) (by intros; first | omega | exact xi | (unfold rg; omega) | exact hLt _ _ (Or.inl (by assumption)) | exact hLt _ _ (Or.inr (by assumption))) (by intros; first | omega | exact xi | (unfold rg; omega) | exact hLt _ _ (Or.inl (by assumption)) | exact hLt _ _ (Or.inr (by assumption))) (by intros; first | omega | exact xi | (unfold rg; omega) | exact hLt _ _ (Or.inl (by assumption)) | exact hLt _ _ (Or.inr (by assumption))) (by intros; first | omega | exact xi | (unfold rg; omega) | exact hLt _ _ (Or.inl (by assumption)) | exact hLt _ _ (Or.inr (by assumption))) (by intros; first | omega | exact xi | (unfold rg; omega) | exact hLt _ _ (Or.inl (by assumption)) | exact hLt _ _ (Or.inr (by assumption))) (by intros; first | omega | exact xi | (unfold rg; omega) | exact hLt _ _ (Or.inl (by assumption)) | exact hLt _ _ (Or.inr (by assumption))) (by intros; first | omega | exact xi | (unfold rg; omega) | exact hLt _ _ (Or.inl (by assumption)) | exact hLt _ _ (Or.inr (by assumption))) (by intros; first | omega | exact xi | (unfold rg; omega) | exact hLt _ _ (Or.inl (by assumption)) | exact hLt _ _ (Or.inr (by assumption))) (by intros; first | omega | exact xi | (unfold rg; omega) | exact hLt _ _ (Or.inl (by assumption)) | exact hLt _ _ (Or.inr (by assumption))) (by intros; first | omega | exact xi | (unfold rg; omega) | exact hLt _ _ (Or.inl (by assumption)) | exact hLt _ _ (Or.inr (by assumption))) (by intros; first | omega | exact xi | (unfold rg; omega) | exact hLt _ _ (Or.inl (by assumption)) | exact hLt _ _ (Or.inr (by assumption))) (by intros; first | omega | exact xi | (unfold rg; omega) | exact hLt _ _ (Or.inl (by assumption)) | exact hLt _ _ (Or.inr (by assumption))) (by intros; first | omega | exact xi | (unfold rg; omega) | exact hLt _ _ (Or.inl (by assumption)) | exact hLt _ _ (Or.inr (by assumption))) (by intros; first | omega | exact xi | (unfold rg; omega) | exact hLt _ _ (Or.inl (by assumption)) | exact hLt _ _ (Or.inr (by assumption))) (by intros; first | omega | exact xi | (unfold rg; omega) | exact hLt _ _ (Or.inl (by assumption)) | exact hLt _ _ (Or.inr (by assumption))) ?_ ?_ ?_ ?_ ?_ ?_ ?_ ?_ ?_ ?_ ?_
    · intro q; exfalso; omega
    · intro _ q; exact absurd z0 q
    · intros; exfalso; omega
    · intro _ _ q _ v t h s tk; exact hS v t s (by omega) (fun y => q y.1) h tk
    · intro _ _ _ q y v t h s tk; exact hJ v t s y (fun y => q y.2.1) h tk
    · intros; exfalso; omega
    · intro _ _ _ _ q y v t h s tk; exact hJ v t s y (fun y => q y.2.2.1) h tk
    · intros; exfalso; omega
    · intro _ _ _ _ _ q y v t h s tk; exact hJ v t s y (fun y => q y.2.2.2) h tk
    · intros; exfalso; omega
    · intro _ _ y1 y2 y3 y4
      have hxx : gi τ 37 12 = 0 → XI τ := fun _ => xi
      refine v_rX_85 b k (by intros; first | omega | exact xi) (by intros; first | omega | exact xi) (by intros; first | omega | exact xi) (by intros; first | omega | exact xi) ?_
      intro s r
      obtain ⟨t, r1, r2, r3⟩ := r
      obtain ⟨r2, r4⟩ := r2 z0
      have htm : t = (gi τ 37 4).toNat := by
        refine Classical.byContradiction fun q => ?_
        have z := r2.2.2.resolve_left (by omega)
        have c := Rls_cnt (by omega) xi t r2.1 r2.2.1
        have w := stF_0 (xi.2.2.2.2.2.2 ((gi τ 37 4).toNat - 1 - t) (by omega)) z
        rw [show (gi τ 37 4).toNat - t = ((gi τ 37 4).toNat - 1 - t) + 1 by omega, cnt_s, w, decide_eq_true rfl, show b2i true = 1 from rfl] at c
        have := cnt_in (fun j => decide (gi τ 39 j = -21)) ((gi τ 37 4).toNat - 1 - t)
        omega
      rw [htm] at r2 r4
      refine hP s ⟨⟨b, τ, st, Or.inl ⟨by rw [r4, gp_o (by omega)]; exact z0, ⟨y1, y2, y3, y4⟩, xi, z0, r4, r2⟩⟩, Lx_eq lx (fun a i p => by rw [r4, gp_o (by omega)]), fun a i p => by rw [r4, gp_o (by omega)]; exact kx a i p, by rw [r4, gp_o (by omega)]; omega⟩
  · unfold TI
    rw [f2 37 7 (by omega), f2 37 8 (by omega), f2 37 9 (by omega), f2 37 10 (by omega), f2 37 11 (by omega)]
    exact hti
  · unfold T4
    rw [f2 37 10 (by omega), f2 37 11 (by omega)]
    exact h4
