/-! CALLS that change the state: exchange, keepIn, give -/
def upW (V : Nat → Nat → Int) (f0 i0 : Nat) (v : Int) : Nat → Nat → Int := fun f i => if f = f0 ∧ i = i0 then v else V f i
theorem wvu {s : Mm} {f0 i0 : Nat} {v : Int} (h : f0 ≤ 8) : wv (si s (40 + f0) i0 v) 40 = upW (wv s 40) f0 i0 v := by
  funext f i
  simp only [wv, upW]
  by_cases q : f ≤ 8
  · rw [if_pos q, if_pos q, gi_si]
    by_cases z : f = f0 ∧ i = i0
    · rw [if_pos z, if_pos ⟨by omega, z.2⟩]
    · rw [if_neg z, if_neg (by omega)]
  · rw [if_neg q, if_neg q, if_neg (by omega)]
theorem wvn {s : Mm} {a i0 : Nat} {v : Int} (h : ¬ (40 ≤ a ∧ a ≤ 48)) : wv (si s a i0 v) 40 = wv s 40 := wv_eq fun f b hf => by rw [gi_si, if_neg (by omega)]
/-- a deed is noted, the world is V' now -/
def De (σ s : Mm) (V' : Nat → Nat → Int) (kd on ot : Int) : Prop := (∀ a i, ¬ (40 ≤ a ∧ a ≤ 48) → ¬ (71 ≤ a ∧ a ≤ 74) → gi s a i = gi σ a i) ∧ wv s 40 = V' ∧ (gi s 71 3 = if gi σ 71 4 < 20 then gi σ 71 3 else (gi σ 71 3 + 1) % 20) ∧ (gi s 71 4 = if gi σ 71 4 < 20 then gi σ 71 4 + 1 else gi σ 71 4) ∧
  (∀ i, gi s 72 i = if i = ((gi σ 71 3 + gi σ 71 4) % 20).toNat then kd else gi σ 72 i) ∧ (∀ i, gi s 73 i = if i = ((gi σ 71 3 + gi σ 71 4) % 20).toNat then on else gi σ 73 i) ∧ (∀ i, gi s 74 i = if i = ((gi σ 71 3 + gi σ 71 4) % 20).toNat then ot else gi σ 74 i)
theorem De_full {σ s0 t1 t2 t3 t4 : Mm} {kd on ot x : Int} (h : ∀ a i, ¬ (40 ≤ a ∧ a ≤ 48) → gi s0 a i = gi σ a i) (hx : x = (gi σ 71 3 + gi σ 71 4) % 20) (e1 : t1 = si s0 72 x.toNat kd) (e2 : t2 = si t1 73 x.toNat on) (e3 : t3 = si t2 74 x.toNat ot) (hf : 20 ≤ gi σ 71 4) (e4 : t4 = si t3 71 3 ((gi σ 71 3 + 1) % 20)) : De σ t4 (wv s0 40) kd on ot := by
  subst hx
  refine ⟨fun a i p q => ?_, ?_, ?_, ?_, fun i => ?_, fun i => ?_, fun i => ?_⟩
  · rw [e4, gi_ne (by omega), e3, gi_ne (by omega), e2, gi_ne (by omega), e1, gi_ne (by omega)]; exact h a i p
  · rw [e4, wvn (by omega), e3, wvn (by omega), e2, wvn (by omega), e1, wvn (by omega)]
  · rw [if_neg (by omega), e4, gi_si, if_pos ⟨rfl, rfl⟩]
  · rw [if_neg (by omega), e4, gi_si, if_neg (by omega), e3, gi_ne (by omega), e2, gi_ne (by omega), e1, gi_ne (by omega)]; exact h _ _ (by omega)
  · rw [e4, gi_ne (by omega), e3, gi_ne (by omega), e2, gi_ne (by omega), e1, gi_si, h _ _ (by omega)]; simp
  · rw [e4, gi_ne (by omega), e3, gi_ne (by omega), e2, gi_si, e1, gi_ne (by omega), h _ _ (by omega)]; simp
  · rw [e4, gi_ne (by omega), e3, gi_si, e2, gi_ne (by omega), e1, gi_ne (by omega), h _ _ (by omega)]; simp
theorem De_room {σ s0 t1 t2 t3 t4 : Mm} {kd on ot x : Int} (h : ∀ a i, ¬ (40 ≤ a ∧ a ≤ 48) → gi s0 a i = gi σ a i) (hx : x = (gi σ 71 3 + gi σ 71 4) % 20) (e1 : t1 = si s0 72 x.toNat kd) (e2 : t2 = si t1 73 x.toNat on) (e3 : t3 = si t2 74 x.toNat ot) (hf : gi σ 71 4 < 20) (e4 : t4 = si t3 71 4 (gi σ 71 4 + 1)) : De σ t4 (wv s0 40) kd on ot := by
  subst hx
  refine ⟨fun a i p q => ?_, ?_, ?_, ?_, fun i => ?_, fun i => ?_, fun i => ?_⟩
  · rw [e4, gi_ne (by omega), e3, gi_ne (by omega), e2, gi_ne (by omega), e1, gi_ne (by omega)]; exact h a i p
  · rw [e4, wvn (by omega), e3, wvn (by omega), e2, wvn (by omega), e1, wvn (by omega)]
  · rw [if_pos (by omega), e4, gi_si, if_neg (by omega), e3, gi_ne (by omega), e2, gi_ne (by omega), e1, gi_ne (by omega)]; exact h _ _ (by omega)
  · rw [if_pos (by omega), e4, gi_si, if_pos ⟨rfl, rfl⟩]
  · rw [e4, gi_ne (by omega), e3, gi_ne (by omega), e2, gi_ne (by omega), e1, gi_si, h _ _ (by omega)]; simp
  · rw [e4, gi_ne (by omega), e3, gi_ne (by omega), e2, gi_si, e1, gi_ne (by omega), h _ _ (by omega)]; simp
  · rw [e4, gi_ne (by omega), e3, gi_si, e2, gi_ne (by omega), e1, gi_ne (by omega), h _ _ (by omega)]; simp
theorem De.si {σ s : Mm} {V' : Nat → Nat → Int} {kd on ot : Int} (h : De σ s V' kd on ot) {f0 i0 : Nat} {v : Int} (hf : f0 ≤ 8) : De σ (si s (40 + f0) i0 v) (upW V' f0 i0 v) kd on ot := by
  obtain ⟨h1, h2, h3, h4, h5, h6, h7⟩ := h
  refine ⟨fun a i p q => ?_, ?_, ?_, ?_, fun i => ?_, fun i => ?_, fun i => ?_⟩
  · rw [gi_ne (by omega)]; exact h1 a i p q
  · rw [wvu hf, h2]
  · rw [gi_ne (by omega)]; exact h3
  · rw [gi_ne (by omega)]; exact h4
  · rw [gi_ne (by omega)]; exact h5 i
  · rw [gi_ne (by omega)]; exact h6 i
  · rw [gi_ne (by omega)]; exact h7 i
/-- a deed done on both sides -/
theorem deed_rel {xs : Nat → Int} {N : Nat} {σ s s8 s' : Mm} {V' : Nat → Nat → Int} {kd on ot : Int} (h : Rel xs N σ) (d : De σ s V' kd on ot) (rm : Rm (si s 85 2 0) s8) (fr : ∀ a i, ¬ hf 0 a i → gi s' a i = gi s8 a i) (rw' : RW (vw σ 5) V' s' 0) (wi : WI (vw σ 5) V') (uh : UH (vw σ 5) V') (htb : tbV V' kd on ot = wv σ 40) (hdv : DV (vw σ 5) V' kd on ot) (h00 : V' 0 0 = gi σ 40 0) (h8 : ∀ i, V' 8 i = gi σ 48 i) : Rel xs N s' := by
  obtain ⟨d1, d2, d3, d4, d5, d6, d7⟩ := d
  obtain ⟨m1, m2, m3⟩ := rm
  have hlow : ∀ a i, a < 85 → gi s' a i = gi s a i := fun a i q => by rw [fr a i (by unfold hf; omega), m1 a i (by omega) (by omega), gi_ne (by omega)]
  have hw : wv s' 40 = V' := by rw [← d2]; exact wv_eq fun f b hf => hlow _ _ (by omega)
  have hs2 : ∀ a i, 85 ≤ a → ¬ (a = 85 ∧ i = 2) → gi (si s 85 2 0) a i = gi σ a i := fun a i q z => by rw [gi_si, if_neg z]; exact d1 a i (by omega) (by omega)
  have hpt : ∀ r, ptF (si s 85 2 0) r = ptF σ r := fun r => by
    unfold ptF
    rw [hs2 111 _ (by omega) (by omega), hs2 112 _ (by omega) (by omega), hs2 113 _ (by omega) (by omega), hs2 114 _ (by omega) (by omega), hs2 115 _ (by omega) (by omega), hs2 118 _ (by omega) (by omega), hs2 122 _ (by omega) (by omega)]
  have hx : Rmx σ s' := by
    have e82 := hs2 85 82 (by omega) (by omega)
    have f82 : gi s' 85 82 = gi s8 85 82 := fr _ _ (by unfold hf; omega)
    have f129 : ∀ i, gi s' 129 i = gi s8 129 i := fun i => fr _ _ (by unfold hf; omega)
    unfold Rmx at m3 ⊢
    rw [f82]
    simp only [f129]
    rw [e82] at m3
    rcases m3 with ⟨x1, x2, x3, x4⟩ | ⟨x1, x2, x3, x4⟩
    · exact Or.inl ⟨x1, x2, fun i hi => by rw [x3 i hi]; exact hs2 _ _ (by omega) (by omega), fun r hr => by rw [x4 r hr]; exact hpt r⟩
    · exact Or.inr ⟨x1, x2, fun i hi => by rw [x3 i hi]; exact hs2 _ _ (by omega) (by omega), fun r hr => by rw [x4 r hr]; exact hpt r⟩
  refine Rel_W h (fun a i p q1 q2 => ?_) (fun a i p q1 q2 q3 => ?_) (by rw [hw]; exact wi) (by rw [hw]; exact uh) (by rw [hw]; exact rw') ?_ ?_ (fun k hk hk2 => ?_)
  · rw [hlow a i (by unfold kpX at p; omega)]; exact d1 a i q1 q2
  · have ha := kpM_85 p
    have hn := kpM_sc p
    rw [fr a i q1, m1 a i q2 q3]; exact hs2 a i ha (by omega)
  · have : gi s' 40 0 = V' 0 0 := by rw [← hw]; rfl
    rw [this, h00]; exact (Rel_w0 h).2.1.2
  · rw [hw]
    have r7 := h.2.2.2.2.2.2.1
    have r9 := h.2.2.2.2.2.2.2.2.1
    have r11 := h.2.2.2.2.2.2.2.2.2.2.1
    exact RelU_push r11 r7 r9 hx (by rw [hlow _ _ (by omega)]; exact d3) (by rw [hlow _ _ (by omega)]; exact d4) (fun i => by rw [hlow _ _ (by omega)]; exact d5 i) (fun i => by rw [hlow _ _ (by omega)]; exact d6 i) (fun i => by rw [hlow _ _ (by omega)]; exact d7 i) htb hdv
  · have : gi s' 48 k = V' 8 k := by rw [← hw]; rfl
    rw [this, h8]
    exact (h.2.2.2.2.2.2.2.2.2.2.2.2.2.2.2.2.2.2 k hk hk2).1
theorem De_85 {σ s : Mm} {V' : Nat → Nat → Int} {kd on ot : Int} (d : De σ s V' kd on ot) (a i : Nat) (h : 85 ≤ a) : gi s a i = gi σ a i := d.1 a i (by omega) (by omega)
theorem Rm_85 {σ s s8 : Mm} {V' : Nat → Nat → Int} {kd on ot : Int} (d : De σ s V' kd on ot) (rm : Rm (si s 85 2 0) s8) (a i : Nat) (h : 86 ≤ a) (h2 : a ≠ 129) : gi s8 a i = gi σ a i := by
  rw [rm.1 a i h2 (by omega), gi_ne (by omega)]; exact De_85 d a i (by omega)
theorem De_KB {xs : Nat → Int} {N : Nat} {σ s : Mm} {V' : Nat → Nat → Int} {kd on ot : Int} (h : Rel xs N σ) (d : De σ s V' kd on ot) : KB (si s 85 2 0) := fun i hi => by rw [gi_ne (by omega), De_85 d 112 i (by omega)]; exact Rel_KB h i hi
theorem Rel_un {xs : Nat → Int} {N : Nat} {σ : Mm} (h : Rel xs N σ) : (0 ≤ gi σ 71 3 ∧ gi σ 71 3 < 20) ∧ (0 ≤ gi σ 71 4 ∧ gi σ 71 4 ≤ 20) ∧ gi σ 85 82 = gi σ 71 4 := by
  obtain ⟨st, mn, e3, e4, e82, hst, hmn, -⟩ := h.2.2.2.2.2.2.2.2.2.2.1
  omega
theorem v_ex {n : Nat}  (a : Int) (b : Int) {σ : Mm} {P : Int → Mm → Prop} (o1 : (0 : Int) ≤ a → a < (gi σ 5 0) → (0 : Int) ≤ b → b < (gi σ 5 0) → a ≠ b → (0 ≤ a ∧ a < 5)) (o2 : (0 : Int) ≤ a → a < (gi σ 5 0) → (0 : Int) ≤ b → b < (gi σ 5 0) → a ≠ b → ∀ x7 : Int, x7 = gi σ 45 a.toNat → (0 ≤ b ∧ b < 5)) (o3 : (0 : Int) ≤ a → a < (gi σ 5 0) → (0 : Int) ≤ b → b < (gi σ 5 0) → a ≠ b → ∀ x7 : Int, x7 = gi σ 45 a.toNat → ∀ t9 : Mm, t9 = si σ 45 a.toNat (gi σ 45 b.toNat) → ∀ t10 : Mm, t10 = si t9 45 b.toNat x7 → rg ((gi σ 71 3) + (gi σ 71 4))) (o4 : (0 : Int) ≤ a → a < (gi σ 5 0) → (0 : Int) ≤ b → b < (gi σ 5 0) → a ≠ b → ∀ x7 : Int, x7 = gi σ 45 a.toNat → ∀ t9 : Mm, t9 = si σ 45 a.toNat (gi σ 45 b.toNat) → ∀ t10 : Mm, t10 = si t9 45 b.toNat x7 → (0 ≤ ((gi σ 71 3) + (gi σ 71 4)) ∧ 0 < (20 : Int))) (o5 : (0 : Int) ≤ a → a < (gi σ 5 0) → (0 : Int) ≤ b → b < (gi σ 5 0) → a ≠ b → ∀ x7 : Int, x7 = gi σ 45 a.toNat → ∀ t9 : Mm, t9 = si σ 45 a.toNat (gi σ 45 b.toNat) → ∀ t10 : Mm, t10 = si t9 45 b.toNat x7 → ∀ x13 : Int, x13 = ((gi σ 71 3) + (gi σ 71 4)) % (20 : Int) → (0 ≤ x13 ∧ x13 < 20)) (o6 : (0 : Int) ≤ a → a < (gi σ 5 0) → (0 : Int) ≤ b → b < (gi σ 5 0) → a ≠ b → ∀ x7 : Int, x7 = gi σ 45 a.toNat → ∀ t9 : Mm, t9 = si σ 45 a.toNat (gi σ 45 b.toNat) → ∀ t10 : Mm, t10 = si t9 45 b.toNat x7 → ∀ x13 : Int, x13 = ((gi σ 71 3) + (gi σ 71 4)) % (20 : Int) → ∀ t15 : Mm, t15 = si t10 72 x13.toNat (0 : Int) → ∀ t16 : Mm, t16 = si t15 73 x13.toNat a → ∀ t17 : Mm, t17 = si t16 74 x13.toNat b → (20 : Int) ≤ (gi σ 71 4) → rg ((gi σ 71 3) + 1)) (o7 : (0 : Int) ≤ a → a < (gi σ 5 0) → (0 : Int) ≤ b → b < (gi σ 5 0) → a ≠ b → ∀ x7 : Int, x7 = gi σ 45 a.toNat → ∀ t9 : Mm, t9 = si σ 45 a.toNat (gi σ 45 b.toNat) → ∀ t10 : Mm, t10 = si t9 45 b.toNat x7 → ∀ x13 : Int, x13 = ((gi σ 71 3) + (gi σ 71 4)) % (20 : Int) → ∀ t15 : Mm, t15 = si t10 72 x13.toNat (0 : Int) → ∀ t16 : Mm, t16 = si t15 73 x13.toNat a → ∀ t17 : Mm, t17 = si t16 74 x13.toNat b → (20 : Int) ≤ (gi σ 71 4) → (0 ≤ ((gi σ 71 3) + 1) ∧ 0 < (20 : Int))) (o8 : (0 : Int) ≤ a → a < (gi σ 5 0) → (0 : Int) ≤ b → b < (gi σ 5 0) → a ≠ b → ∀ x7 : Int, x7 = gi σ 45 a.toNat → ∀ t9 : Mm, t9 = si σ 45 a.toNat (gi σ 45 b.toNat) → ∀ t10 : Mm, t10 = si t9 45 b.toNat x7 → ∀ x13 : Int, x13 = ((gi σ 71 3) + (gi σ 71 4)) % (20 : Int) → ∀ t15 : Mm, t15 = si t10 72 x13.toNat (0 : Int) → ∀ t16 : Mm, t16 = si t15 73 x13.toNat a → ∀ t17 : Mm, t17 = si t16 74 x13.toNat b → (gi σ 71 4) < (20 : Int) → rg ((gi σ 71 4) + 1)) (l1 : a < (0 : Int) → P 0 σ) (l2 : (0 : Int) ≤ a → (gi σ 5 0) ≤ a → P 0 σ) (l3 : (0 : Int) ≤ a → a < (gi σ 5 0) → b < (0 : Int) → P 0 σ) (l4 : (0 : Int) ≤ a → a < (gi σ 5 0) → (0 : Int) ≤ b → (gi σ 5 0) ≤ b → P 0 σ) (l5 : (0 : Int) ≤ a → a < (gi σ 5 0) → (0 : Int) ≤ b → b < (gi σ 5 0) → a ≠ b → ∀ x7 : Int, x7 = gi σ 45 a.toNat → ∀ t9 : Mm, t9 = si σ 45 a.toNat (gi σ 45 b.toNat) → ∀ t10 : Mm, t10 = si t9 45 b.toNat x7 → ∀ x13 : Int, x13 = ((gi σ 71 3) + (gi σ 71 4)) % (20 : Int) → ∀ t15 : Mm, t15 = si t10 72 x13.toNat (0 : Int) → ∀ t16 : Mm, t16 = si t15 73 x13.toNat a → ∀ t17 : Mm, t17 = si t16 74 x13.toNat b → (20 : Int) ≤ (gi σ 71 4) → ∀ t21 : Mm, t21 = si t17 71 3 (((gi σ 71 3) + 1) % (20 : Int)) → P 1 t21) (l6 : (0 : Int) ≤ a → a < (gi σ 5 0) → (0 : Int) ≤ b → b < (gi σ 5 0) → a ≠ b → ∀ x7 : Int, x7 = gi σ 45 a.toNat → ∀ t9 : Mm, t9 = si σ 45 a.toNat (gi σ 45 b.toNat) → ∀ t10 : Mm, t10 = si t9 45 b.toNat x7 → ∀ x13 : Int, x13 = ((gi σ 71 3) + (gi σ 71 4)) % (20 : Int) → ∀ t15 : Mm, t15 = si t10 72 x13.toNat (0 : Int) → ∀ t16 : Mm, t16 = si t15 73 x13.toNat a → ∀ t17 : Mm, t17 = si t16 74 x13.toNat b → (gi σ 71 4) < (20 : Int) → ∀ t23 : Mm, t23 = si t17 71 4 ((gi σ 71 4) + 1) → P 1 t23) (l7 : (0 : Int) ≤ a → a < (gi σ 5 0) → (0 : Int) ≤ b → b < (gi σ 5 0) → a = b → P 0 σ) : Ci 114 [vr 3, vi a, vi b] (shF n) σ P :=
  show R 114 0 [some (vr 3), some (vi a), some (vi b)] [] (shF n) 0 0 σ (Qi (shF n) P) from wpK_R 24 [] ((show R 103 0 [some (vr 3), _] [] (shF n) 0 0 _ _ from wpK_R 10 [] (And.intro (fun q1 => And.intro ret0 (And.intro (Or.inl rfl) ⟨rfl, _, rfl, And.intro (fun _ => And.intro ret0 (And.intro (Or.inl rfl) ⟨rfl, _, rfl, (l1 q1)⟩)) (fun q => absurd (show (0 : Int) = 0 by decide) q)⟩)) (fun q1 => And.intro (fun q2 => And.intro ret0 (And.intro (Or.inl rfl) ⟨rfl, _, rfl, And.intro (fun _ => And.intro ret0 (And.intro (Or.inl rfl) ⟨rfl, _, rfl, (l2 (Int.not_lt.mp q1) q2)⟩)) (fun q => absurd (show (0 : Int) = 0 by decide) q)⟩)) (fun q2 => And.intro ret0 (And.intro (Or.inr rfl) ⟨rfl, _, rfl, And.intro (fun q => absurd q (show ¬ ((1 : Int) = 0) by decide)) (fun _ => (show R 103 0 [some (vr 3), _] [] (shF n) 0 0 _ _ from wpK_R 10 [] (And.intro (fun q3 => And.intro ret0 (And.intro (Or.inl rfl) ⟨rfl, _, rfl, And.intro (fun _ => And.intro ret0 (And.intro (Or.inl rfl) ⟨rfl, _, rfl, (l3 (Int.not_lt.mp q1) (Int.not_le.mp q2) q3)⟩)) (fun q => absurd (show (0 : Int) = 0 by decide) q)⟩)) (fun q3 => And.intro (fun q4 => And.intro ret0 (And.intro (Or.inl rfl) ⟨rfl, _, rfl, And.intro (fun _ => And.intro ret0 (And.intro (Or.inl rfl) ⟨rfl, _, rfl, (l4 (Int.not_lt.mp q1) (Int.not_le.mp q2) (Int.not_lt.mp q3) q4)⟩)) (fun q => absurd (show (0 : Int) = 0 by decide) q)⟩)) (fun q4 => And.intro ret0 (And.intro (Or.inr rfl) ⟨rfl, _, rfl, And.intro (fun q => absurd q (show ¬ ((1 : Int) = 0) by decide)) (fun _ => And.intro (fun q5 => (show R 83 0 [some (vr 40), _, _, none] [] (shF n) 0 0 _ _ from wpK_R 19 [] ((have k6 := (o1 (Int.not_lt.mp q1) (Int.not_le.mp q2) (Int.not_lt.mp q3) (Int.not_le.mp q4) q5); And.intro k6 ((have k8 := (o2 (Int.not_lt.mp q1) (Int.not_le.mp q2) (Int.not_lt.mp q3) (Int.not_le.mp q4) q5 _ rfl); And.intro k8 (And.intro k6 (And.intro k8 (And.intro ret0 ⟨rfl, rfl, (show R 13 0 [some (vr 71), some (vi 0), _, _, none] [] (shF n) 0 0 _ _ from wpK_R 36 [] ((have k11 := (o3 (Int.not_lt.mp q1) (Int.not_le.mp q2) (Int.not_lt.mp q3) (Int.not_le.mp q4) q5 _ rfl _ rfl _ rfl); And.intro k11 ((have k12 := (o4 (Int.not_lt.mp q1) (Int.not_le.mp q2) (Int.not_lt.mp q3) (Int.not_le.mp q4) q5 _ rfl _ rfl _ rfl); And.intro k12 ((have k14 := (o5 (Int.not_lt.mp q1) (Int.not_le.mp q2) (Int.not_lt.mp q3) (Int.not_le.mp q4) q5 _ rfl _ rfl _ rfl _ rfl); And.intro k14 (And.intro k14 (And.intro k14 (And.intro (fun q18 => (have k19 := (o6 (Int.not_lt.mp q1) (Int.not_le.mp q2) (Int.not_lt.mp q3) (Int.not_le.mp q4) q5 _ rfl _ rfl _ rfl _ rfl _ rfl _ rfl _ rfl q18); And.intro k19 ((have k20 := (o7 (Int.not_lt.mp q1) (Int.not_le.mp q2) (Int.not_lt.mp q3) (Int.not_le.mp q4) q5 _ rfl _ rfl _ rfl _ rfl _ rfl _ rfl _ rfl q18); And.intro k20 (And.intro ret0 ⟨rfl, rfl, And.intro ret0 (And.intro (Or.inr rfl) ⟨rfl, _, rfl, (l5 (Int.not_lt.mp q1) (Int.not_le.mp q2) (Int.not_lt.mp q3) (Int.not_le.mp q4) q5 _ rfl _ rfl _ rfl _ rfl _ rfl _ rfl _ rfl q18 _ rfl)⟩)⟩))))) (fun q18 => (have k22 := (o8 (Int.not_lt.mp q1) (Int.not_le.mp q2) (Int.not_lt.mp q3) (Int.not_le.mp q4) q5 _ rfl _ rfl _ rfl _ rfl _ rfl _ rfl _ rfl (Int.not_le.mp q18)); And.intro k22 (And.intro ret0 ⟨rfl, rfl, And.intro ret0 (And.intro (Or.inr rfl) ⟨rfl, _, rfl, (l6 (Int.not_lt.mp q1) (Int.not_le.mp q2) (Int.not_lt.mp q3) (Int.not_le.mp q4) q5 _ rfl _ rfl _ rfl _ rfl _ rfl _ rfl _ rfl (Int.not_le.mp q18) _ rfl)⟩)⟩)))))))))))))⟩))))))))) (fun q5 => And.intro ret0 (And.intro (Or.inl rfl) ⟨rfl, _, rfl, (l7 (Int.not_lt.mp q1) (Int.not_le.mp q2) (Int.not_lt.mp q3) (Int.not_le.mp q4) (Classical.not_not.mp q5))⟩)))⟩))))))⟩))))))
theorem v_exR {n : Nat}  (a : Int) (b : Int) {σ : Mm} {P : Int → Mm → Prop} (o1 : ∀ t1 : Mm, t1 = si σ 85 2 (0 : Int) → (0 : Int) ≤ a → a < (gi σ 85 12) → (0 : Int) ≤ b → b < (gi σ 85 12) → a ≠ b → KB t1) (o2 : ∀ t1 : Mm, t1 = si σ 85 2 (0 : Int) → (0 : Int) ≤ a → a < (gi σ 85 12) → (0 : Int) ≤ b → b < (gi σ 85 12) → a ≠ b → (0 ≤ gi t1 85 82 ∧ gi t1 85 82 ≤ 20)) (o3 : ∀ t1 : Mm, t1 = si σ 85 2 (0 : Int) → (0 : Int) ≤ a → a < (gi σ 85 12) → (0 : Int) ≤ b → b < (gi σ 85 12) → a ≠ b → ∀ s8 : Mm, Rm t1 s8 → (0 ≤ a ∧ a < 10)) (o4 : ∀ t1 : Mm, t1 = si σ 85 2 (0 : Int) → (0 : Int) ≤ a → a < (gi σ 85 12) → (0 : Int) ≤ b → b < (gi σ 85 12) → a ≠ b → ∀ s8 : Mm, Rm t1 s8 → ∀ x11 : Int, x11 = gi s8 111 a.toNat → (0 ≤ b ∧ b < 10)) (l1 : ∀ t1 : Mm, t1 = si σ 85 2 (0 : Int) → a < (0 : Int) → P 0 t1) (l2 : ∀ t1 : Mm, t1 = si σ 85 2 (0 : Int) → (0 : Int) ≤ a → (gi σ 85 12) ≤ a → P 0 t1) (l3 : ∀ t1 : Mm, t1 = si σ 85 2 (0 : Int) → (0 : Int) ≤ a → a < (gi σ 85 12) → b < (0 : Int) → P 0 t1) (l4 : ∀ t1 : Mm, t1 = si σ 85 2 (0 : Int) → (0 : Int) ≤ a → a < (gi σ 85 12) → (0 : Int) ≤ b → (gi σ 85 12) ≤ b → P 0 t1) (l5 : ∀ t1 : Mm, t1 = si σ 85 2 (0 : Int) → (0 : Int) ≤ a → a < (gi σ 85 12) → (0 : Int) ≤ b → b < (gi σ 85 12) → a ≠ b → ∀ s8 : Mm, Rm t1 s8 → ∀ x11 : Int, x11 = gi s8 111 a.toNat → ∀ t13 : Mm, t13 = si s8 111 a.toNat (gi s8 111 b.toNat) → ∀ t14 : Mm, t14 = si t13 111 b.toNat x11 → P 1 t14) (l6 : ∀ t1 : Mm, t1 = si σ 85 2 (0 : Int) → (0 : Int) ≤ a → a < (gi σ 85 12) → (0 : Int) ≤ b → b < (gi σ 85 12) → a = b → P 0 t1) : Ci 230 [vr 85, vi a, vi b] (shF n) σ P :=
  show R 230 0 [some (vr 85), some (vi a), some (vi b), none] [] (shF n) 0 0 σ (Qi (shF n) P) from wpK_R 36 [] ((show R 200 0 [some (vr 85), _] [] (shF n) 0 0 _ _ from wpK_R 9 [] (And.intro (fun q2 => And.intro ret0 (And.intro (Or.inl rfl) ⟨rfl, _, rfl, And.intro (fun _ => And.intro ret0 (And.intro (Or.inl rfl) ⟨rfl, _, rfl, (l1 _ rfl q2)⟩)) (fun q => absurd (show (0 : Int) = 0 by decide) q)⟩)) (fun q2 => And.intro (fun q3 => And.intro ret0 (And.intro (Or.inl rfl) ⟨rfl, _, rfl, And.intro (fun _ => And.intro ret0 (And.intro (Or.inl rfl) ⟨rfl, _, rfl, (l2 _ rfl (Int.not_lt.mp q2) q3)⟩)) (fun q => absurd (show (0 : Int) = 0 by decide) q)⟩)) (fun q3 => And.intro ret0 (And.intro (Or.inr rfl) ⟨rfl, _, rfl, And.intro (fun q => absurd q (show ¬ ((1 : Int) = 0) by decide)) (fun _ => (show R 200 0 [some (vr 85), _] [] (shF n) 0 0 _ _ from wpK_R 9 [] (And.intro (fun q4 => And.intro ret0 (And.intro (Or.inl rfl) ⟨rfl, _, rfl, And.intro (fun _ => And.intro ret0 (And.intro (Or.inl rfl) ⟨rfl, _, rfl, (l3 _ rfl (Int.not_lt.mp q2) (Int.not_le.mp q3) q4)⟩)) (fun q => absurd (show (0 : Int) = 0 by decide) q)⟩)) (fun q4 => And.intro (fun q5 => And.intro ret0 (And.intro (Or.inl rfl) ⟨rfl, _, rfl, And.intro (fun _ => And.intro ret0 (And.intro (Or.inl rfl) ⟨rfl, _, rfl, (l4 _ rfl (Int.not_lt.mp q2) (Int.not_le.mp q3) (Int.not_lt.mp q4) q5)⟩)) (fun q => absurd (show (0 : Int) = 0 by decide) q)⟩)) (fun q5 => And.intro ret0 (And.intro (Or.inr rfl) ⟨rfl, _, rfl, And.intro (fun q => absurd q (show ¬ ((1 : Int) = 0) by decide)) (fun _ => And.intro (fun q6 => (c_rem  (o1 _ rfl (Int.not_lt.mp q2) (Int.not_le.mp q3) (Int.not_lt.mp q4) (Int.not_le.mp q5) q6) (o2 _ rfl (Int.not_lt.mp q2) (Int.not_le.mp q3) (Int.not_lt.mp q4) (Int.not_le.mp q5) q6) (fun s8 h9 => (have k10 := (o3 _ rfl (Int.not_lt.mp q2) (Int.not_le.mp q3) (Int.not_lt.mp q4) (Int.not_le.mp q5) q6 s8 h9); And.intro k10 ((have k12 := (o4 _ rfl (Int.not_lt.mp q2) (Int.not_le.mp q3) (Int.not_lt.mp q4) (Int.not_le.mp q5) q6 s8 h9 _ rfl); And.intro k12 (And.intro k10 (And.intro k12 (And.intro ret0 (And.intro (Or.inr rfl) ⟨rfl, _, rfl, (l5 _ rfl (Int.not_lt.mp q2) (Int.not_le.mp q3) (Int.not_lt.mp q4) (Int.not_le.mp q5) q6 s8 h9 _ rfl _ rfl _ rfl)⟩)))))))))) (fun q6 => And.intro ret0 (And.intro (Or.inl rfl) ⟨rfl, _, rfl, (l6 _ rfl (Int.not_lt.mp q2) (Int.not_le.mp q3) (Int.not_lt.mp q4) (Int.not_le.mp q5) (Classical.not_not.mp q6))⟩)))⟩))))))⟩))))))
theorem q_exchange {xs : Nat → Int} {N n : Nat} {σ : Mm} (h : Rel xs N σ) (a b : Int) : Bi xs N n 114 [vr 3, vi a, vi b] 230 [vr 85, vi a, vi b] σ := by
  obtain ⟨c0, c1, c2, c3, c5, d0, d1, d2, d3, -⟩ := Rel_cnt h
  have hun := Rel_un h
  have r7 := h.2.2.2.2.2.2.1
  have r8 := h.2.2.2.2.2.2.2.1
  have r9 := h.2.2.2.2.2.2.2.2.1
  have hno : ¬ ((0 ≤ a ∧ a < gi σ 5 0) ∧ (0 ≤ b ∧ b < gi σ 5 0) ∧ a ≠ b) → Ci 230 [vr 85, vi a, vi b] (shF n) σ (fun v' s' => v' = 0 ∧ Rel xs N s') := fun q => by
    refine v_exR a b (by intros; exfalso; omega) (by intros; exfalso; omega) (by intros; exfalso; omega) (by intros; exfalso; omega) ?_ ?_ ?_ ?_ ?_ ?_
    all_goals (intro t1 ht; intros; first | (exfalso; omega) | (rw [ht]; exact ⟨rfl, Rel_th h⟩))
  have hyes : ∀ s : Mm, (0 ≤ a ∧ a < gi σ 5 0) → (0 ≤ b ∧ b < gi σ 5 0) → a ≠ b → De σ s (upW (upW (wv σ 40) 5 a.toNat (gi σ 45 b.toNat)) 5 b.toNat (gi σ 45 a.toNat)) 0 a b → Ci 230 [vr 85, vi a, vi b] (shF n) s (fun v' s' => v' = 1 ∧ Rel xs N s') := fun s h1 h2 hne d => by
    have g12 := De_85 d 85 12 (by omega)
    have g82 := De_85 d 85 82 (by omega)
    refine v_exR a b (by intros; subst_vars; first | omega | exact De_KB h d | (rw [gi_si, if_neg (by omega), g82]; omega)) (by intros; subst_vars; first | omega | exact De_KB h d | (rw [gi_si, if_neg (by omega), g82]; omega)) (by intros; subst_vars; first | omega | exact De_KB h d | (rw [gi_si, if_neg (by omega), g82]; omega)) (by intros; subst_vars; first | omega | exact De_KB h d | (rw [gi_si, if_neg (by omega), g82]; omega)) ?_ ?_ ?_ ?_ ?_ ?_
    · intros; exfalso; omega
    · intros; exfalso; omega
    · intros; exfalso; omega
    · intros; exfalso; omega
    · intro t1 ht _ _ _ _ _ s8 rm x11 e11 t13 e13 t14 e14
      subst ht
      refine ⟨rfl, ?_⟩
      have f8 := Rm_85 d rm
      have ea : gi σ 111 a.toNat = gi σ 45 a.toNat := (Rel_w5 h (by omega)).1
      have eb : gi σ 111 b.toNat = gi σ 45 b.toNat := (Rel_w5 h (by omega)).1
      have ja := (Rel_j h (j := a.toNat) (by omega)).2.2.2
      have jb := (Rel_j h (j := b.toNat) (by omega)).2.2.2
      rw [f8 111 _ (by omega) (by omega), ea] at e11
      rw [f8 111 _ (by omega) (by omega), eb] at e13
      have hfr : ∀ x i, ¬ (x = 111 ∧ (i = a.toNat ∨ i = b.toNat)) → gi t14 x i = gi s8 x i := fun x i q => by rw [e14, gi_si, if_neg (by omega), e13, gi_si, if_neg (by omega)]
      have hup : ∀ f i, f ≠ 5 → upW (upW (wv σ 40) 5 a.toNat (gi σ 45 b.toNat)) 5 b.toNat (gi σ 45 a.toNat) f i = wv σ 40 f i := fun f i q => by unfold upW; rw [if_neg (fun z => q z.1), if_neg (fun z => q z.1)]
      have hup5 : ∀ i, upW (upW (wv σ 40) 5 a.toNat (gi σ 45 b.toNat)) 5 b.toNat (gi σ 45 a.toNat) 5 i = if i = b.toNat then gi σ 45 a.toNat else if i = a.toNat then gi σ 45 b.toNat else wv σ 40 5 i := fun i => by
        unfold upW
        by_cases z1 : i = b.toNat
        · rw [if_pos ⟨rfl, z1⟩, if_pos z1]
        · rw [if_neg (fun z => z1 z.2), if_neg z1]
          by_cases z2 : i = a.toNat
          · rw [if_pos ⟨rfl, z2⟩, if_pos z2]
          · rw [if_neg (fun z => z2 z.2), if_neg z2]
      have w5 : ∀ i, wv σ 40 5 i = gi σ 45 i := fun i => rfl
      have T0 : vw σ 5 0 0 = gi σ 5 0 := rfl
      obtain ⟨V', hV'⟩ : ∃ V', V' = upW (upW (wv σ 40) 5 a.toNat (gi σ 45 b.toNat)) 5 b.toNat (gi σ 45 a.toNat) := ⟨_, rfl⟩
      rw [← hV'] at d hup hup5
      refine deed_rel h d rm (fun x i q => hfr x i (by unfold hf at q; omega)) ?_ ?_ ?_ ?_ ?_ ?_ ?_
      · obtain ⟨w1, w2, w3, w4, w5', w6, w7⟩ := r9
        have ho : ∀ x i, 86 ≤ x → x ≠ 129 → ¬ (x = 111 ∧ (i = a.toNat ∨ i = b.toNat)) → gi t14 x i = gi σ x i := fun x i p q z => by rw [hfr x i z]; exact f8 x i p q
        simp only [Nat.mul_zero, Nat.zero_add] at w2 w3 w4 w5'
        refine ⟨by rw [ho _ _ (by omega) (by omega) (by omega), hup 0 0 (by omega)]; exact w1, fun c hc => ?_, fun c hc => ?_, fun j hj => ⟨?_, ?_, ?_, ?_⟩, fun i hi => ?_, ?_, ?_⟩
        · rw [ho _ _ (by omega) (by omega) (by omega), hup _ _ (by omega), Nat.mul_zero, Nat.zero_add]; exact w2 c hc
        · rw [ho _ _ (by omega) (by omega) (by omega), ho _ _ (by omega) (by omega) (by omega), ho _ _ (by omega) (by omega) (by omega), hup _ _ (by omega), hup _ _ (by omega), hup _ _ (by omega), Nat.mul_zero, Nat.zero_add]; exact w3 c hc
        · rw [Nat.mul_zero, Nat.zero_add, hup5, e14, gi_si, e13, gi_si]
          by_cases z1 : j = b.toNat
          · rw [if_pos ⟨rfl, z1⟩, if_pos z1]; exact e11
          · rw [if_neg (fun z => z1 z.2), if_neg z1]
            by_cases z2 : j = a.toNat
            · rw [if_pos ⟨rfl, z2⟩, if_pos z2]
            · rw [if_neg (fun z => z2 z.2), if_neg z2, f8 _ _ (by omega) (by omega)]; exact (w4 j hj).1
        · rw [ho _ _ (by omega) (by omega) (by omega), hup _ _ (by omega), Nat.mul_zero, Nat.zero_add]; exact (w4 j hj).2.1
        · rw [ho _ _ (by omega) (by omega) (by omega), hup _ _ (by omega), Nat.mul_zero, Nat.zero_add]; exact (w4 j hj).2.2.1
        · rw [ho _ _ (by omega) (by omega) (by omega), hup _ _ (by omega), Nat.mul_zero, Nat.zero_add]; exact (w4 j hj).2.2.2
        · rw [ho _ _ (by omega) (by omega) (by omega), hup _ _ (by omega), Nat.mul_zero, Nat.zero_add]; exact w5' i hi
        · rw [ho _ _ (by omega) (by omega) (by omega), w6]; exact cnt_congr fun q _ => by rw [hup _ _ (by omega)]
        · rw [ho _ _ (by omega) (by omega) (by omega), w7]; exact cnt_congr fun q _ => by rw [hup _ _ (by omega)]
      · obtain ⟨⟨s1, s2, s3, s4, s5⟩, w1, w2, w3, w4, w5', w6, w7, w8, w9, w10, w11, w12⟩ := r7
        refine ⟨⟨fun c hc => by rw [hup _ _ (by omega)]; exact s1 c hc, fun j hj => ?_, fun u hu => by rw [hup _ _ (by omega)]; exact s3 u hu, fun u p hu hp => by rw [hup _ _ (by omega)] at hp ⊢; exact s4 u p hu hp, by rw [hup _ _ (by omega)]; exact s5⟩, fun u p hu hp => ?_, fun u p u' p' hu hu' hp hp' => ?_, fun c hc => ?_, fun c hc => ?_, fun c hc hc' => ?_, fun j j' hj hj' he => ?_, fun u hu => ?_, fun k hk => ?_, fun u hu hu' => ?_, ?_, fun x hx => ?_, ?_⟩
        · rw [hup5]
          split
          · exact ja
          · split
            · exact jb
            · exact s2 j hj
        · rw [hup _ _ (by omega)] at hp; rw [hup _ _ (by omega), hup _ _ (by omega)]; exact w1 u p hu hp
        · rw [hup _ _ (by omega)] at hp hp'; rw [hup _ _ (by omega), hup _ _ (by omega)]; exact w2 u p u' p' hu hu' hp hp'
        · rw [hup _ _ (by omega), hup _ _ (by omega)]; exact w3 c hc
        · rw [hup _ _ (by omega), hup _ _ (by omega)]; exact w4 c hc
        · rw [hup _ _ (by omega)]; exact w5' c hc hc'
        · rw [hup5, hup5] at he
          have k1 := fun q : gi σ 45 j = gi σ 45 j' => w6 j j' hj hj' q
          have k2 := fun q : gi σ 45 a.toNat = gi σ 45 j' => w6 a.toNat j' (by omega) hj' q
          have k3 := fun q : gi σ 45 b.toNat = gi σ 45 j' => w6 b.toNat j' (by omega) hj' q
          have k4 := fun q : gi σ 45 j = gi σ 45 a.toNat => w6 j a.toNat hj (by omega) q
          have k5 := fun q : gi σ 45 j = gi σ 45 b.toNat => w6 j b.toNat hj (by omega) q
          have k6 := fun q : gi σ 45 a.toNat = gi σ 45 b.toNat => w6 a.toNat b.toNat (by omega) (by omega) q
          rw [w5, w5] at he
          by_cases z1 : j = b.toNat
          · rw [if_pos z1] at he
            by_cases z2 : j' = b.toNat
            · omega
            · rw [if_neg z2] at he
              by_cases z3 : j' = a.toNat
              · rw [if_pos z3] at he; have := k6 he; omega
              · rw [if_neg z3] at he; have := k2 he; omega
          · rw [if_neg z1] at he
            by_cases z4 : j = a.toNat
            · rw [if_pos z4] at he
              by_cases z2 : j' = b.toNat
              · rw [if_pos z2] at he; have := k6 he.symm; omega
              · rw [if_neg z2] at he
                by_cases z3 : j' = a.toNat
                · omega
                · rw [if_neg z3] at he; have := k3 he; omega
            · rw [if_neg z4] at he
              by_cases z2 : j' = b.toNat
              · rw [if_pos z2] at he; have := k4 he; omega
              · rw [if_neg z2] at he
                by_cases z3 : j' = a.toNat
                · rw [if_pos z3] at he; have := k5 he; omega
                · rw [if_neg z3] at he; exact k1 he
        · obtain ⟨j, hj, he⟩ := w7 u hu
          by_cases z1 : j = a.toNat
          · exact ⟨b.toNat, by omega, by rw [hup5, if_pos rfl, ← z1]; exact he⟩
          · by_cases z2 : j = b.toNat
            · exact ⟨a.toNat, by omega, by rw [hup5, if_neg (by omega), if_pos rfl, ← z2]; exact he⟩
            · exact ⟨j, hj, by rw [hup5, if_neg z2, if_neg z1]; exact he⟩
        · rw [hup _ _ (by omega)]
          exact ⟨(w8 k hk).1, (w8 k hk).2.1, fun x hx hb => by rw [hup _ _ (by omega)]; exact (w8 k hk).2.2 x hx hb⟩
        · rw [hup _ _ (by omega)]; exact w9 u hu hu'
        · rw [sumF_congr (g := wv σ 40 6) fun q _ => hup 6 q (by omega), w10]; exact cnt_congr fun q _ => by rw [hup _ _ (by omega)]
        · rw [hup _ _ (by omega)]; exact w11 x hx
        · rw [hup _ _ (by omega)]; exact w12
      · intro c hc hd
        rw [hup _ _ (by omega)] at hd ⊢
        exact r8 c hc hd
      · funext f i
        unfold tbV
        rw [if_pos rfl]
        by_cases q : f = 5
        · subst q
          simp only [hup5]
          by_cases z1 : i = b.toNat
          · rw [if_pos ⟨trivial, z1⟩, if_neg (by omega), if_pos trivial, z1]; rfl
          · rw [if_neg (fun z => z1 z.2)]
            by_cases z2 : i = a.toNat
            · rw [if_pos ⟨trivial, z2⟩, if_pos trivial, z2]; rfl
            · rw [if_neg (fun z => z2 z.2), if_neg z1, if_neg z2]
        · rw [if_neg (fun z => q z.1), if_neg (fun z => q z.1), hup f i q]
      · exact Or.inl ⟨rfl, h1, h2⟩
      · exact hup 0 0 (by omega)
      · intro i; exact hup 8 i (by omega)
    · intros; exfalso; omega
  have hfin : ∀ t10 t9 : Mm, ∀ x7 : Int, x7 = gi σ 45 a.toNat → t9 = si σ 45 a.toNat (gi σ 45 b.toNat) → t10 = si t9 45 b.toNat x7 → (∀ a i, ¬ (40 ≤ a ∧ a ≤ 48) → gi t10 a i = gi σ a i) ∧ wv t10 40 = upW (upW (wv σ 40) 5 a.toNat (gi σ 45 b.toNat)) 5 b.toNat (gi σ 45 a.toNat) := fun t10 t9 x7 e7 e9 e10 => by
    refine ⟨fun x i p => by rw [e10, gi_ne (by omega), e9, gi_ne (by omega)], ?_⟩
    rw [e10, wvu (f0 := 5) (by omega), e9, wvu (f0 := 5) (by omega), e7]
  refine v_ex a b (by intros; first | omega | (have ja := (Rel_j h (j := a.toNat) (by omega)).2.2.2; have jb := (Rel_j h (j := b.toNat) (by omega)).2.2.2; omega) | (unfold rg; omega)) (by intros; first | omega | (have ja := (Rel_j h (j := a.toNat) (by omega)).2.2.2; have jb := (Rel_j h (j := b.toNat) (by omega)).2.2.2; omega) | (unfold rg; omega)) (by intros; first | omega | (have ja := (Rel_j h (j := a.toNat) (by omega)).2.2.2; have jb := (Rel_j h (j := b.toNat) (by omega)).2.2.2; omega) | (unfold rg; omega)) (by intros; first | omega | (have ja := (Rel_j h (j := a.toNat) (by omega)).2.2.2; have jb := (Rel_j h (j := b.toNat) (by omega)).2.2.2; omega) | (unfold rg; omega)) (by intros; first | omega | (have ja := (Rel_j h (j := a.toNat) (by omega)).2.2.2; have jb := (Rel_j h (j := b.toNat) (by omega)).2.2.2; omega) | (unfold rg; omega)) (by intros; first | omega | (have ja := (Rel_j h (j := a.toNat) (by omega)).2.2.2; have jb := (Rel_j h (j := b.toNat) (by omega)).2.2.2; omega) | (unfold rg; omega)) (by intros; first | omega | (have ja := (Rel_j h (j := a.toNat) (by omega)).2.2.2; have jb := (Rel_j h (j := b.toNat) (by omega)).2.2.2; omega) | (unfold rg; omega)) (by intros; first | omega | (have ja := (Rel_j h (j := a.toNat) (by omega)).2.2.2; have jb := (Rel_j h (j := b.toNat) (by omega)).2.2.2; omega) | (unfold rg; omega)) ?_ ?_ ?_ ?_ ?_ ?_ ?_
  · intros; exact hno (by omega)
  · intros; exact hno (by omega)
  · intros; exact hno (by omega)
  · intros; exact hno (by omega)
  · intro h1 h2 h3 h4 hne x7 e7 t9 e9 t10 e10 x13 e13 t15 e15 t16 e16 t17 e17 hfull t21 e21
    obtain ⟨p1, p2⟩ := hfin t10 t9 x7 e7 e9 e10
    have := De_full p1 e13 e15 e16 e17 hfull e21
    rw [p2] at this
    exact hyes t21 ⟨h1, h2⟩ ⟨h3, h4⟩ hne this
  · intro h1 h2 h3 h4 hne x7 e7 t9 e9 t10 e10 x13 e13 t15 e15 t16 e16 t17 e17 hroom t21 e21
    obtain ⟨p1, p2⟩ := hfin t10 t9 x7 e7 e9 e10
    have := De_room p1 e13 e15 e16 e17 hroom e21
    rw [p2] at this
    exact hyes t21 ⟨h1, h2⟩ ⟨h3, h4⟩ hne this
  · intros; exact hno (by omega)
