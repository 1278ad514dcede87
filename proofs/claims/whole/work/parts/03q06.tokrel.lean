/-! TEXT: the two sides' tokens are each other's -/
theorem pk_ext2 {b b' : Nat → Int} {p p' e e' : Nat} : ∀ k, (∀ i, i < k → dgN b p e i = dgN b' p' e' i) → pkN b p e k = pkN b' p' e' k := by
  intro k
  induction k with
  | zero => intro _; rfl
  | succ k ih => intro h; simp only [pkN]; rw [ih fun i hi => h i (by omega), h k (by omega)]
theorem pk_inj {b b' : Nat → Int} {p p' e e' : Nat} : ∀ k, (∀ i, i < k → dgN b p e i < 32) → (∀ i, i < k → dgN b' p' e' i < 32) → pkN b p e k = pkN b' p' e' k → ∀ i, i < k → dgN b p e i = dgN b' p' e' i := by
  intro k
  induction k with
  | zero => intro _ _ _ i hi; omega
  | succ k ih =>
    intro h1 h2 he i hi
    simp only [pkN] at he
    have a := h1 k (by omega)
    have c := h2 k (by omega)
    have e1 : dgN b p e k = dgN b' p' e' k := by omega
    have e2 : pkN b p e k = pkN b' p' e' k := by omega
    by_cases z : i = k
    · rw [z]; exact e1
    · exact ih (fun i hi => h1 i (by omega)) (fun i hi => h2 i (by omega)) e2 i (by omega)
theorem plF_m1 {f : Nat → Int} {z : Int} : ∀ m : Nat, plF f z m = -1 → ∀ i, i < m → f i ≠ z := by
  intro m
  induction m with
  | zero => intro _ i hi; omega
  | succ m ih =>
    intro h i hi
    simp only [plF] at h
    by_cases q : plF f z m = -1
    · rw [if_neg (fun y => y q)] at h
      by_cases y : f m = z
      · rw [if_pos y] at h; omega
      · by_cases x : i = m
        · rw [x]; exact y
        · exact ih q i (by omega)
    · rw [if_pos q] at h; exact absurd h q
def swN (v : Nat) : Nat := if v = 9 then 10 else if v = 10 then 9 else v
def swI (v : Int) : Int := if v = 9 then 10 else if v = 10 then 9 else v
theorem swN_sw : ∀ v, v < 19 → swN (swN v) = v ∧ swN v < 19 := by decide +kernel
theorem cdF_inj : ∀ i, i < 19 → ∀ j, j < 19 → cdF i = cdF j → i = j := by decide +kernel
theorem wpk : ∀ k, k < 19 → ((pkN (fun i => cdW (wfN k + i)) 0 (wnN k) 6 : Nat) : Int) = cdF (swN k) := by decide +kernel
theorem mw_iff {t : Nat → Int} {q e k : Nat} (hl : ∀ j, q ≤ j → j < e → isL (t j) = true) (h6 : e - q ≤ 6) (hk : k < 19) (hqe : q ≤ e) : mwI t q e k = 1 ↔ cdF (swN k) = ((pkN t q e 6 : Nat) : Int) := by
  obtain ⟨w1, w2, w3, w4, w5⟩ := wN_f k hk
  rw [← wpk k hk]
  unfold mwI
  constructor
  · intro h
    split at h
    · rename_i y
      have hp : pkN (fun i => cdW (wfN k + i)) 0 (wnN k) 6 = pkN t q e 6 := pk_ext2 6 fun i hi => by
        unfold dgN
        by_cases z : i < wnN k
        · rw [if_pos (by omega), if_pos (by omega), ← y.2 i z, Nat.zero_add]
        · rw [if_neg (by omega), if_neg (by omega)]
      rw [hp]
    · omega
  · intro h
    have h' : pkN (fun i => cdW (wfN k + i)) 0 (wnN k) 6 = pkN t q e 6 := Int.ofNat.inj h
    have hd : ∀ i, i < 6 → dgN (fun i => cdW (wfN k + i)) 0 (wnN k) i = dgN t q e i := pk_inj 6 (fun i hi => by
      unfold dgN
      split
      · have := w5 i (by omega)
        show (cdW (wfN k + (0 + i)) - 96).toNat < 32
        rw [Nat.zero_add]; omega
      · omega) (fun i hi => dg_lt hl) h'
    have hlen : wnN k = e - q := by
      refine Classical.byContradiction fun z => ?_
      rcases Nat.lt_or_ge (wnN k) (e - q) with y | y
      · have a := hd (wnN k) (by omega)
        have c := isL_t.mp (hl (q + wnN k) (by omega) (by omega))
        unfold dgN at a
        rw [if_neg (by omega), if_pos (by omega)] at a
        omega
      · have a := hd (e - q) (by omega)
        have c := w5 (e - q) (by omega)
        unfold dgN at a
        rw [if_pos (by omega), if_neg (by omega), Nat.zero_add] at a
        have a' : (cdW (wfN k + (e - q)) - 96).toNat = 0 := a
        omega
    have hall : ∀ i, i < wnN k → cdW (wfN k + i) = t (q + i) := fun i hi => by
      have a := hd i (by omega)
      have c := isL_t.mp (hl (q + i) (by omega) (by omega))
      have d := w5 i hi
      unfold dgN at a
      rw [if_pos (by omega), if_pos (by omega), Nat.zero_add] at a
      have a' : (cdW (wfN k + i) - 96).toNat = (t (q + i) - 96).toNat := a
      omega
    rw [if_pos ⟨hlen, hall⟩]
theorem word_eq {t : Nat → Int} {q e : Nat} (hl : ∀ j, q ≤ j → j < e → isL (t j) = true) (hqe : q ≤ e) : (6 < e - q → wdI t q e = -1) ∧ (e - q ≤ 6 → (plF cdF ((pkN t q e 6 : Nat) : Int) 19 = -1 ∧ wdI t q e = -1) ∨ (0 ≤ plF cdF ((pkN t q e 6 : Nat) : Int) 19 ∧ wdI t q e = swI (plF cdF ((pkN t q e 6 : Nat) : Int) 19))) := by
  have hin := plF_in (f := mwI t q e) (z := 1) 19
  have hwd : wdI t q e = plF (mwI t q e) 1 19 := rfl
  rw [← hwd] at hin
  constructor
  · intro h6
    refine Classical.byContradiction fun z => ?_
    have h0 : 0 ≤ wdI t q e := by omega
    have hm := hin.2.2 h0
    have hw := wN_f (wdI t q e).toNat (by omega)
    unfold mwI at hm
    split at hm
    · rename_i y; omega
    · omega
  · intro h6
    have hcd := plF_in (f := cdF) (z := ((pkN t q e 6 : Nat) : Int)) 19
    obtain ⟨V, hV⟩ : ∃ V, V = plF cdF ((pkN t q e 6 : Nat) : Int) 19 := ⟨_, rfl⟩
    rw [← hV] at hcd ⊢
    by_cases z : V = -1
    · refine Or.inl ⟨z, ?_⟩
      refine Classical.byContradiction fun y => ?_
      have h0 : 0 ≤ wdI t q e := by omega
      have hm := hin.2.2 h0
      have hk : (wdI t q e).toNat < 19 := by omega
      exact plF_m1 19 (by rw [← hV]; exact z) _ (swN_sw _ hk).2 ((mw_iff hl h6 hk hqe).mp hm)
    · have hV0 : 0 ≤ V := by omega
      have hc := hcd.2.2 hV0
      have hk : V.toNat < 19 := by omega
      obtain ⟨s1, s2⟩ := swN_sw V.toNat hk
      have hm : mwI t q e (swN V.toNat) = 1 := (mw_iff hl h6 s2 hqe).mpr (by rw [s1]; exact hc)
      have hn : wdI t q e ≠ -1 := fun y => plF_m1 19 y _ s2 hm
      have hm2 := hin.2.2 (by omega)
      have hk2 : (wdI t q e).toNat < 19 := by omega
      have he := (mw_iff hl h6 hk2 hqe).mp hm2
      have hu := cdF_inj _ (swN_sw _ hk2).2 _ hk (by rw [he, hc])
      refine Or.inr ⟨hV0, ?_⟩
      have := (swN_sw _ hk2).1
      rw [hu] at this
      unfold swN at this
      unfold swI
      split at this
      · rw [if_pos (by omega)]; omega
      · split at this
        · rw [if_neg (by omega), if_pos (by omega)]; omega
        · rw [if_neg (by omega), if_neg (by omega)]; omega
def TRl (k v k' w : Int) : Prop :=
  (k = 0 ∧ k' = 0) ∨ (k = 1 ∧ k' = 1 ∧ 0 ≤ v ∧ v < 19 ∧ w = swI v) ∨ (k = 2 ∧ k' = 2 ∧ w = v) ∨ (k = 3 ∧ k' = 3 ∧ 0 ≤ v ∧ 0 ≤ w ∧ (w = v ∨ (9999 < v ∧ 9999 < w))) ∨
  (k = 4 ∧ k' = 5 ∧ -16 ≤ v ∧ v ≤ -11 ∧ w = -11 - v) ∨
  (k = 4 ∧ k' = 4 ∧ ((v = -17 ∧ w = 43) ∨ (v = -18 ∧ w = 45) ∨ (v = -19 ∧ w = 42) ∨ (v = -20 ∧ w = 47) ∨ (v = -21 ∧ w = 40) ∨ (v = -22 ∧ w = 41) ∨ (v = -23 ∧ w = 59))) ∨
  (k = 5 ∧ (k' = 6 ∨ (k' = 4 ∧ w = 37)))
theorem lr_cong {f g : Nat → Bool} {n : Nat} : ∀ (d p : Nat), n - p = d → (∀ i, p ≤ i → i < n → f i = g i) → lr f n p = lr g n p := by
  intro d
  induction d with
  | zero => intro p h _; rw [lr_st (Or.inl (by omega)), lr_st (Or.inl (by omega))]
  | succ d ih =>
    intro p h he
    have e := he p (Nat.le_refl _) (by omega)
    cases hf : f p with
    | false => rw [lr_st (Or.inr hf), lr_st (Or.inr (by rw [← e]; exact hf))]
    | true => rw [lr_go (f := f) (p := p) (by omega) hf, lr_go (f := g) (p := p) (by omega) (by rw [← e]; exact hf)]; exact ih (p + 1) (by omega) fun i a b => he i (by omega) b
theorem b8_id {x : Int} (h : 0 ≤ x ∧ x < 256) : (x < 128 ∧ b8 x = x) ∨ (128 ≤ x ∧ b8 x < 0) := by
  unfold b8; split <;> omega
theorem b8_L {x : Int} (h : 0 ≤ x ∧ x < 256) : isL (b8 x) = isL x := by
  unfold isL
  have := b8_id h
  by_cases z : 97 ≤ x ∧ x ≤ 122
  · rw [decide_eq_true z, decide_eq_true (by omega)]
  · rw [decide_eq_false z, decide_eq_false (by omega)]
theorem b8_D {x : Int} (h : 0 ≤ x ∧ x < 256) : isD (b8 x) = isD x := by
  unfold isD
  have := b8_id h
  by_cases z : 48 ≤ x ∧ x ≤ 57
  · rw [decide_eq_true z, decide_eq_true (by omega)]
  · rw [decide_eq_false z, decide_eq_false (by omega)]
theorem b8_B {x : Int} (h : 0 ≤ x ∧ x < 256) : isB (b8 x) = isB x := by
  unfold isB
  have := b8_id h
  by_cases z : x = 10 ∨ x = 32
  · rw [decide_eq_true z, decide_eq_true (by omega)]
  · rw [decide_eq_false z, decide_eq_false (by omega)]
theorem nvC_cong {b t : Nat → Int} {p : Nat} : ∀ k, (∀ i, i < k → b (p + i) = t (p + i)) → nvC b p k = nvC t p k := by
  intro k
  induction k with
  | zero => intro _; rfl
  | succ k ih => intro h; simp only [nvC]; rw [ih fun i hi => h i (by omega), h k (by omega)]
theorem sgF_c (x : Int) : (x = 60 ∧ sgF x = -11) ∨ (x = 61 ∧ sgF x = -13) ∨ (x = 62 ∧ sgF x = -16) ∨ (x = 43 ∧ sgF x = -17) ∨ (x = 45 ∧ sgF x = -18) ∨ (x = 42 ∧ sgF x = -19) ∨ (x = 47 ∧ sgF x = -20) ∨ (x = 40 ∧ sgF x = -21) ∨ (x = 41 ∧ sgF x = -22) ∨ (x = 59 ∧ sgF x = -23) ∨ (sgF x = 0 ∧ x ≠ 60 ∧ x ≠ 61 ∧ x ≠ 62 ∧ x ≠ 43 ∧ x ≠ 45 ∧ x ≠ 42 ∧ x ≠ 47 ∧ x ≠ 40 ∧ x ≠ 41 ∧ x ≠ 59) := by
  by_cases h0 : x = 60
  · subst h0; exact Or.inl ⟨rfl, rfl⟩
  by_cases h1 : x = 61
  · subst h1; exact Or.inr (Or.inl ⟨rfl, rfl⟩)
  by_cases h2 : x = 62
  · subst h2; exact Or.inr (Or.inr (Or.inl ⟨rfl, rfl⟩))
  by_cases h3 : x = 43
  · subst h3; exact Or.inr (Or.inr (Or.inr (Or.inl ⟨rfl, rfl⟩)))
  by_cases h4 : x = 45
  · subst h4; exact Or.inr (Or.inr (Or.inr (Or.inr (Or.inl ⟨rfl, rfl⟩))))
  by_cases h5 : x = 42
  · subst h5; exact Or.inr (Or.inr (Or.inr (Or.inr (Or.inr (Or.inl ⟨rfl, rfl⟩)))))
  by_cases h6 : x = 47
  · subst h6; exact Or.inr (Or.inr (Or.inr (Or.inr (Or.inr (Or.inr (Or.inl ⟨rfl, rfl⟩))))))
  by_cases h7 : x = 40
  · subst h7; exact Or.inr (Or.inr (Or.inr (Or.inr (Or.inr (Or.inr (Or.inr (Or.inl ⟨rfl, rfl⟩)))))))
  by_cases h8 : x = 41
  · subst h8; exact Or.inr (Or.inr (Or.inr (Or.inr (Or.inr (Or.inr (Or.inr (Or.inr (Or.inl ⟨rfl, rfl⟩))))))))
  by_cases h9 : x = 59
  · subst h9; exact Or.inr (Or.inr (Or.inr (Or.inr (Or.inr (Or.inr (Or.inr (Or.inr (Or.inr (Or.inl ⟨rfl, rfl⟩)))))))))
  refine Or.inr (Or.inr (Or.inr (Or.inr (Or.inr (Or.inr (Or.inr (Or.inr (Or.inr (Or.inr (⟨?_, h0, h1, h2, h3, h4, h5, h6, h7, h8, h9⟩))))))))))
  unfold sgF
  rw [if_neg h0, if_neg h1, if_neg h2, if_neg h3, if_neg h4, if_neg h5, if_neg h6, if_neg h7, if_neg h8, if_neg h9]
theorem tok_rel {b t : Nat → Int} {L q : Nat} {nx k v nx' k' w : Int} (hb : ∀ i, i < L → (0 ≤ t i ∧ t i < 256) ∧ b i = b8 (t i)) (h1 : TkC b L q nx k v) (h2 : TkD t L q nx' k' w) : nx = nx' ∧ TRl k v k' w := by
  have hL : ∀ i, i < L → isL (b i) = isL (t i) := fun i hi => by rw [(hb i hi).2]; exact b8_L (hb i hi).1
  have hD : ∀ i, i < L → isD (b i) = isD (t i) := fun i hi => by rw [(hb i hi).2]; exact b8_D (hb i hi).1
  have eL : lr (fun i => isL (b i)) L q = lr (fun i => isL (t i)) L q := lr_cong _ q rfl fun i _ h => hL i h
  have eD : lr (fun i => isD (b i)) L q = lr (fun i => isD (t i)) L q := lr_cong _ q rfl fun i _ h => hD i h
  have hLD : ∀ x : Int, isL x = true → isD x = true → False := fun x a c => by
    have := isL_t.mp a; have := isD_t.mp c; omega
  rcases h1 with h1 | ⟨a, b1, c, d⟩ | ⟨a, b1, c, d, e⟩ | ⟨a, b1, c, d⟩
  · rcases h2 with h2 | h2 | h2 | h2
    · exact ⟨by omega, Or.inl ⟨h1.2.1, h2.2.1⟩⟩
    · omega
    · omega
    · omega
  · rw [hL q a] at b1
    rcases h2 with h2 | ⟨a', b', c', d'⟩ | ⟨a', b', c', d', e'⟩ | ⟨a', b', c', d'⟩
    · omega
    · rw [eL] at c d
      refine ⟨by rw [c, c'], ?_⟩
      obtain ⟨z1, z2, z3, z4⟩ := lr_in (f := fun i => isL (t i)) (n := L) (p := q) (by omega)
      obtain ⟨E, hE⟩ : ∃ E, E = lr (fun i => isL (t i)) L q := ⟨_, rfl⟩
      rw [← hE] at z1 z2 z4 d d'
      have hbt : pkN b q E 6 = pkN t q E 6 := pk_ext2 6 fun i hi => by
        unfold dgN
        split
        · rename_i y
          have := b8_id (hb (q + i) (by omega)).1
          have := (hb (q + i) (by omega)).2
          have := isL_t.mp (z4 (q + i) (by omega) y)
          congr 1
          omega
        · rfl
      obtain ⟨w1, w2⟩ := word_eq (t := t) (q := q) (e := E) z4 z1
      unfold wdS at d
      rw [hbt] at d
      have hin := plF_in (f := cdF) (z := ((pkN t q E 6 : Nat) : Int)) 19
      rcases d with d | ⟨d, d2 | d2⟩
      · have := w1 d.1
        rcases d' with y | y | y
        · omega
        · exact Or.inr (Or.inr (Or.inr (Or.inr (Or.inr (Or.inr ⟨d.2.1, Or.inl y.2.2⟩)))))
        · omega
      · rcases w2 d with u | u
        · omega
        · have hs : swI (plF cdF ((pkN t q E 6 : Nat) : Int) 19) ≥ 0 := by unfold swI; split; omega; split <;> omega
          rcases d' with y | y | y
          · exact Or.inr (Or.inl ⟨d2.1, y.2.1, by omega, by omega, by rw [y.2.2, u.2, d2.2.2]⟩)
          · omega
          · omega
      · rcases w2 d with u | u
        · rcases d' with y | y | y
          · omega
          · omega
          · exact Or.inr (Or.inr (Or.inl ⟨d2.1, y.2.2.1, by rw [y.2.2.2, d2.2.2]⟩))
        · omega
    · exact absurd b' (by intro y; exact hLD _ b1 y)
    · rw [b1] at b'; exact Bool.noConfusion b'
  · rw [hD q a] at b1
    rcases h2 with h2 | ⟨a', b', c', d'⟩ | ⟨a', b', c', d', e'⟩ | ⟨a', b', c', d'⟩
    · omega
    · exact absurd b' (by intro y; exact hLD _ y b1)
    · rw [eD] at c e
      refine ⟨by rw [c, c'], ?_⟩
      obtain ⟨z1, z2, z3, z4⟩ := lr_in (f := fun i => isD (t i)) (n := L) (p := q) (by omega)
      obtain ⟨E, hE⟩ : ∃ E, E = lr (fun i => isD (t i)) L q := ⟨_, rfl⟩
      rw [← hE] at z1 z2 z4 e e'
      have hnv : nvC b q (E - q) = nvC t q (E - q) := nvC_cong _ fun i hi => by
        have := b8_id (hb (q + i) (by omega)).1
        have := (hb (q + i) (by omega)).2
        have := isD_t.mp (z4 (q + i) (by omega) (by omega))
        omega
      have nv := nv_rel (b := t) (p := q) (E - q) fun i hi => z4 (q + i) (by omega) (by omega)
      rw [hnv] at e
      exact Or.inr (Or.inr (Or.inr (Or.inl ⟨d, d', by omega, by omega, by omega⟩)))
    · rw [b1] at c'; exact Bool.noConfusion c'
  · rw [hL q a] at b1
    rw [hD q a] at c
    rcases h2 with h2 | ⟨a', b', c', d'⟩ | ⟨a', b', c', d', e'⟩ | ⟨a', b', c', d'⟩
    · omega
    · rw [b1] at b'; exact Bool.noConfusion b'
    · rw [c] at b'; exact Bool.noConfusion b'
    · have hx := hb q a
      have hx2 := b8_id hx.1
      rw [← hx.2] at hx2
      have hh : (if q + 1 < L then b (q + 1) else 0) = b8 (if q + 1 < L then t (q + 1) else 0) ∧ (0 ≤ (if q + 1 < L then t (q + 1) else (0 : Int)) ∧ (if q + 1 < L then t (q + 1) else (0 : Int)) < 256) := by
        split
        · exact ⟨(hb (q + 1) (by assumption)).2, (hb (q + 1) (by assumption)).1⟩
        · exact ⟨by decide, by omega⟩
      obtain ⟨h, hhe⟩ : ∃ h, h = (if q + 1 < L then t (q + 1) else (0 : Int)) := ⟨_, rfl⟩
      rw [← hhe] at hh d'
      rw [hh.1] at d
      have hh2 := b8_id hh.2
      have hsg := sgF_c (b q)
      unfold sgR at d
      unfold sgM at d'
      unfold TRl
      obtain ⟨S, hS⟩ : ∃ S, S = sgF (b q) := ⟨_, rfl⟩
      rw [← hS] at hsg d
      clear hL hD eL eD hLD hb hh hhe hS b1 c
      obtain ⟨X, hX⟩ : ∃ X, X = t q := ⟨_, rfl⟩
      obtain ⟨Y, hY⟩ : ∃ Y, Y = b q := ⟨_, rfl⟩
      obtain ⟨H, hH⟩ : ∃ H, H = b8 h := ⟨_, rfl⟩
      rw [← hY, ← hX] at hx2
      rw [← hX] at d' hx
      rw [← hY] at hsg d hx
      rw [← hH] at d hh2
      clear hX hY hH
      have hx2' : (X < 128 ∧ Y = X) ∨ (128 ≤ X ∧ Y < 0) := by omega
      clear hx2 hx
      rcases hsg with g | g | g | g | g | g | g | g | g | g | g
      · have gx : X = 60 := by omega
        by_cases y1 : h = 61
        · have r1 : k = 4 ∧ v = -12 ∧ nx - (q : Int) = 2 := by omega
          have r2 : k' = 5 ∧ w = 1 ∧ nx' - (q : Int) = 2 := by omega
          exact ⟨by omega, Or.inr (Or.inr (Or.inr (Or.inr (Or.inl ⟨r1.1, r2.1, by omega, by omega, by omega⟩))))⟩
        · by_cases y2 : h = 62
          · have r1 : k = 4 ∧ v = -14 ∧ nx - (q : Int) = 2 := by omega
            have r2 : k' = 5 ∧ w = 3 ∧ nx' - (q : Int) = 2 := by omega
            exact ⟨by omega, Or.inr (Or.inr (Or.inr (Or.inr (Or.inl ⟨r1.1, r2.1, by omega, by omega, by omega⟩))))⟩
          · have r1 : k = 4 ∧ v = -11 ∧ nx - (q : Int) = 1 := by omega
            have r2 : k' = 5 ∧ w = 0 ∧ nx' - (q : Int) = 1 := by omega
            exact ⟨by omega, Or.inr (Or.inr (Or.inr (Or.inr (Or.inl ⟨r1.1, r2.1, by omega, by omega, by omega⟩))))⟩
      · have gx : X = 61 := by omega
        have r1 : k = 4 ∧ v = -13 ∧ nx - (q : Int) = 1 := by omega
        have r2 : k' = 5 ∧ w = 2 ∧ nx' - (q : Int) = 1 := by omega
        exact ⟨by omega, Or.inr (Or.inr (Or.inr (Or.inr (Or.inl ⟨r1.1, r2.1, by omega, by omega, by omega⟩))))⟩
      · have gx : X = 62 := by omega
        by_cases y1 : h = 61
        · have r1 : k = 4 ∧ v = -15 ∧ nx - (q : Int) = 2 := by omega
          have r2 : k' = 5 ∧ w = 4 ∧ nx' - (q : Int) = 2 := by omega
          exact ⟨by omega, Or.inr (Or.inr (Or.inr (Or.inr (Or.inl ⟨r1.1, r2.1, by omega, by omega, by omega⟩))))⟩
        · have r1 : k = 4 ∧ v = -16 ∧ nx - (q : Int) = 1 := by omega
          have r2 : k' = 5 ∧ w = 5 ∧ nx' - (q : Int) = 1 := by omega
          exact ⟨by omega, Or.inr (Or.inr (Or.inr (Or.inr (Or.inl ⟨r1.1, r2.1, by omega, by omega, by omega⟩))))⟩
      · have gx : X = 43 := by omega
        have r1 : k = 4 ∧ v = -17 ∧ nx - (q : Int) = 1 := by omega
        have r2 : k' = 4 ∧ w = 43 ∧ nx' - (q : Int) = 1 := by omega
        exact ⟨by omega, Or.inr (Or.inr (Or.inr (Or.inr (Or.inr (Or.inl ⟨r1.1, r2.1, by omega⟩)))))⟩
      · have gx : X = 45 := by omega
        have r1 : k = 4 ∧ v = -18 ∧ nx - (q : Int) = 1 := by omega
        have r2 : k' = 4 ∧ w = 45 ∧ nx' - (q : Int) = 1 := by omega
        exact ⟨by omega, Or.inr (Or.inr (Or.inr (Or.inr (Or.inr (Or.inl ⟨r1.1, r2.1, by omega⟩)))))⟩
      · have gx : X = 42 := by omega
        have r1 : k = 4 ∧ v = -19 ∧ nx - (q : Int) = 1 := by omega
        have r2 : k' = 4 ∧ w = 42 ∧ nx' - (q : Int) = 1 := by omega
        exact ⟨by omega, Or.inr (Or.inr (Or.inr (Or.inr (Or.inr (Or.inl ⟨r1.1, r2.1, by omega⟩)))))⟩
      · have gx : X = 47 := by omega
        have r1 : k = 4 ∧ v = -20 ∧ nx - (q : Int) = 1 := by omega
        have r2 : k' = 4 ∧ w = 47 ∧ nx' - (q : Int) = 1 := by omega
        exact ⟨by omega, Or.inr (Or.inr (Or.inr (Or.inr (Or.inr (Or.inl ⟨r1.1, r2.1, by omega⟩)))))⟩
      · have gx : X = 40 := by omega
        have r1 : k = 4 ∧ v = -21 ∧ nx - (q : Int) = 1 := by omega
        have r2 : k' = 4 ∧ w = 40 ∧ nx' - (q : Int) = 1 := by omega
        exact ⟨by omega, Or.inr (Or.inr (Or.inr (Or.inr (Or.inr (Or.inl ⟨r1.1, r2.1, by omega⟩)))))⟩
      · have gx : X = 41 := by omega
        have r1 : k = 4 ∧ v = -22 ∧ nx - (q : Int) = 1 := by omega
        have r2 : k' = 4 ∧ w = 41 ∧ nx' - (q : Int) = 1 := by omega
        exact ⟨by omega, Or.inr (Or.inr (Or.inr (Or.inr (Or.inr (Or.inl ⟨r1.1, r2.1, by omega⟩)))))⟩
      · have gx : X = 59 := by omega
        have r1 : k = 4 ∧ v = -23 ∧ nx - (q : Int) = 1 := by omega
        have r2 : k' = 4 ∧ w = 59 ∧ nx' - (q : Int) = 1 := by omega
        exact ⟨by omega, Or.inr (Or.inr (Or.inr (Or.inr (Or.inr (Or.inl ⟨r1.1, r2.1, by omega⟩)))))⟩
      · have gx : X ≠ 60 ∧ X ≠ 61 ∧ X ≠ 62 ∧ X ≠ 43 ∧ X ≠ 45 ∧ X ≠ 42 ∧ X ≠ 47 ∧ X ≠ 40 ∧ X ≠ 41 ∧ X ≠ 59 := by omega
        have r1 : k = 5 ∧ v = 0 ∧ nx - (q : Int) = 1 := by omega
        have r2 : (k' = 6 ∨ (k' = 4 ∧ w = 37)) ∧ nx' - (q : Int) = 1 := by
          by_cases y : X = 37 <;> omega
        exact ⟨by omega, Or.inr (Or.inr (Or.inr (Or.inr (Or.inr (Or.inr ⟨r1.1, r2.1⟩)))))⟩
