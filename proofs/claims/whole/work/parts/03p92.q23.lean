/-! QUERIES: ways, whose -/
theorem Wc_cg {J : Nat} {fit fit' : Nat → Nat → Bool} : ∀ (r k : Nat) (S S' : Nat → Bool), (∀ x, x < J → S x = S' x) → (∀ k', k' < k + r → ∀ x, x < J → fit k' x = fit' k' x) → Wc J fit r k S = Wc J fit' r k S' := by
  intro r
  induction r with
  | zero => intros; rfl
  | succ r ih =>
    intro k S S' h hf
    simp only [Wc]
    refine sumF_congr fun d hd => ?_
    rw [h d hd, hf k (by omega) d hd, ih (k + 1) _ _ (fun x hx => by rw [h x hx]) (fun k' hk' => hf k' (by omega))]
def WS (s : Mm) (fit : Nat → Nat → Bool) : Int := Wc (gi s 5 0).toNat fit (gi s 5 0).toNat 0 (fun _ => false)
theorem WS_sum {s : Mm} {fit : Nat → Nat → Bool} : cnt (okC (gi s 5 0).toNat fit (gi s 5 0).toNat 0 (fun _ => false)) ((gi s 5 0).toNat ^ (gi s 5 0).toNat) = WS s fit := okC_cnt _ _ _ (by omega)
theorem cnt_pos {p : Nat → Bool} : ∀ n : Nat, 0 < cnt p n ↔ anyF p n = true := by
  intro n
  induction n with
  | zero => exact ⟨fun h => by simp [cnt, sumF] at h, fun h => Bool.noConfusion h⟩
  | succ n ih =>
    rw [cnt_s, anyF_s, Bool.or_eq_true, ← ih]
    have := cnt_in p n
    cases h : p n
    · simp [b2i]
    · simp [b2i]; omega
theorem v_wyR_0 {n : Nat}   {M1 : Mm → Prop} {σ : Mm} {P : Int → Mm → Prop} (o1 : ∀ t1 : Mm, t1 = si σ 85 2 (0 : Int) → Cv 261 [vr 85] (shF n) t1 M1) (l1 : ∀ t1 : Mm, t1 = si σ 85 2 (0 : Int) → ∀ s3 : Mm, M1 s3 → R 262 13 [some (vr 85), some (vi 0), some (vi 0)] [] (shF n) 0 0 s3 (Qi (shF n) P)) : Ci 262 [vr 85] (shF n) σ P :=
  show R 262 0 [some (vr 85), none, none] [] (shF n) 0 0 σ (Qi (shF n) P) from wpK_R 10 [13] ((Cv_mono (o1 _ rfl) (fun s3 h2 => (l1 _ rfl s3 h2))))
theorem v_wyR_L {n : Nat}  (m : Int) (c : Nat) {M1 : Int → Mm → Prop} {σ : Mm} {P : Int → Mm → Prop} (o1 : (0 ≤ (gi σ 85 12) ∧ (gi σ 85 12) ≤ 5)) (o2 : (0 ≤ (gi σ 85 12) ∧ (gi σ 85 12) ≤ 6)) (o3 : ∀ x1 : Int, x1 = (((gi σ 85 12).toNat ^ (gi σ 85 12).toNat : Nat) : Int) → (c : Int) < x1 → Ci 260 [vr 85, vi (c : Int)] (shF n) σ M1) (o4 : ∀ x1 : Int, x1 = (((gi σ 85 12).toNat ^ (gi σ 85 12).toNat : Nat) : Int) → (c : Int) < x1 → ∀ (v5 : Int) (s4 : Mm), M1 v5 s4 → v5 = (0 : Int) → rg (m + 0)) (o5 : ∀ x1 : Int, x1 = (((gi σ 85 12).toNat ^ (gi σ 85 12).toNat : Nat) : Int) → (c : Int) < x1 → ∀ (v5 : Int) (s4 : Mm), M1 v5 s4 → v5 = (0 : Int) → ∀ x8 : Int, x8 = m + 0 → rg ((c : Int) + 1)) (o6 : ∀ x1 : Int, x1 = (((gi σ 85 12).toNat ^ (gi σ 85 12).toNat : Nat) : Int) → (c : Int) < x1 → ∀ (v5 : Int) (s4 : Mm), M1 v5 s4 → v5 ≠ (0 : Int) → rg (m + 1)) (o7 : ∀ x1 : Int, x1 = (((gi σ 85 12).toNat ^ (gi σ 85 12).toNat : Nat) : Int) → (c : Int) < x1 → ∀ (v5 : Int) (s4 : Mm), M1 v5 s4 → v5 ≠ (0 : Int) → ∀ x11 : Int, x11 = m + 1 → rg ((c : Int) + 1)) (l1 : ∀ x1 : Int, x1 = (((gi σ 85 12).toNat ^ (gi σ 85 12).toNat : Nat) : Int) → x1 ≤ (c : Int) → P m σ) (l2 : ∀ x1 : Int, x1 = (((gi σ 85 12).toNat ^ (gi σ 85 12).toNat : Nat) : Int) → (c : Int) < x1 → ∀ (v5 : Int) (s4 : Mm), M1 v5 s4 → v5 = (0 : Int) → ∀ x8 : Int, x8 = m + 0 → R 262 13 [some (vr 85), some (vi x8), some (vi ((c : Int) + 1))] [] (shF n) 0 0 s4 (Qi (shF n) P)) (l3 : ∀ x1 : Int, x1 = (((gi σ 85 12).toNat ^ (gi σ 85 12).toNat : Nat) : Int) → (c : Int) < x1 → ∀ (v5 : Int) (s4 : Mm), M1 v5 s4 → v5 ≠ (0 : Int) → ∀ x11 : Int, x11 = m + 1 → R 262 13 [some (vr 85), some (vi x11), some (vi ((c : Int) + 1))] [] (shF n) 0 0 s4 (Qi (shF n) P)) : R 262 13 [some (vr 85), some (vi m), some (vi (c : Int))] [] (shF n) 0 0 σ (Qi (shF n) P) :=
  wpK_R 19 [13] ((c_pw  (o1) (o2) (And.intro (fun q2 => And.intro ret0 ⟨rfl, _, rfl, (l1 _ rfl q2)⟩) (fun q2 => (Ci_mono (o3 _ rfl (Int.not_le.mp q2)) (fun v5 s4 h3 => And.intro (fun q6 => (have k7 := (o4 _ rfl (Int.not_le.mp q2) v5 s4 h3 q6); And.intro k7 ((have k9 := (o5 _ rfl (Int.not_le.mp q2) v5 s4 h3 q6 _ rfl); And.intro k9 ((l2 _ rfl (Int.not_le.mp q2) v5 s4 h3 q6 _ rfl)))))) (fun q6 => (have k10 := (o6 _ rfl (Int.not_le.mp q2) v5 s4 h3 q6); And.intro k10 ((have k12 := (o7 _ rfl (Int.not_le.mp q2) v5 s4 h3 q6 _ rfl); And.intro k12 ((l3 _ rfl (Int.not_le.mp q2) v5 s4 h3 q6 _ rfl))))))))))))
theorem r_ways {xs : Nat → Int} {N n : Nat} {s : Mm} (h : Rel xs N s) : Ci 262 [vr 85] (shF n) s (fun v' s' => v' = WS s (ftS s) ∧ Rel xs N s') := by
  obtain ⟨c0, c1, c2, c3, c5, d0, d1, d2, d3, -⟩ := Rel_cnt h
  have h1 : Rel xs N (si s 85 2 0) := Rel_th h
  have hW : WS s (ftS s) = WS (si s 85 2 0) (ftS (si s 85 2 0)) := rfl
  rw [hW]
  obtain ⟨t, ht⟩ : ∃ t, t = si s 85 2 0 := ⟨_, rfl⟩
  rw [← ht] at h1 ⊢
  have hJ5 : gi t 5 0 = gi s 5 0 := by rw [ht]; rfl
  obtain ⟨J, hJ⟩ : ∃ J : Nat, gi t 5 0 = (J : Int) := ⟨(gi t 5 0).toNat, by omega⟩
  have hJn : (gi t 5 0).toNat = J := by omega
  have hpw := pw_bd (b := J) (k := J) (by omega) (by omega)
  have hfin : ∀ τ, (∀ a i, a ≠ 127 → a ≠ 128 → ¬ (a = 85 ∧ i = 2) → gi τ a i = gi t a i) → Rel xs N τ := fun τ f => Rel_M h1 fun a i p => by
    refine f a i ?_ ?_ ?_
    · rintro rfl; rcases p with p | p
      · omega
      · simp [kpM, hT, hf] at p
    · rintro rfl; rcases p with p | p
      · omega
      · simp [kpM, hT, hf] at p
    · rintro ⟨rfl, rfl⟩; rcases p with p | p
      · omega
      · exact kpM_sc p ⟨rfl, by omega⟩
  refine v_wyR_0 (M1 := Lc t) (fun t1 e1 => by rw [e1, ← ht]; exact c_lc (Rel_FP h1) h1.2.2.2.2.2.2.2.2.2.2.2.2.1 (fun s q => q)) ?_
  intro t1 e1 s3 lc
  refine loopUp (N := J ^ J) (I := fun c => ∀ τ : Mm, (∀ a i, a ≠ 127 → a ≠ 128 → gi τ a i = gi t a i) → (∀ i, i < Kf t → gi τ 127 i = b2i (!skN (gi t 78) (gi t 76) (Kf t) (Kf t) i)) → R 262 13 [some (vr 85), some (vi (cnt (okS t) c)), some (vi (c : Int))] [] (shF n) 0 0 τ (Qi (shF n) (fun v' s' => v' = WS t (ftS t) ∧ Rel xs N s'))) (fun c hc ih => ?_) 0 (by omega) s3 (fun a i p _ => lc.1 a i p) lc.2
  intro τ f1 f2
  have e12 : gi τ 85 12 = (J : Int) := by rw [f1 _ _ (by omega) (by omega), (Rel_cnt h1).2.2.2.2.2.1]; exact hJ
  have hcn := cnt_in (okS t) c
  have hx1 : ∀ x1 : Int, x1 = (((gi τ 85 12).toNat ^ (gi τ 85 12).toNat : Nat) : Int) → x1 = ((J ^ J : Nat) : Int) := fun x1 e => by rw [e, e12, Int.toNat_natCast]
  have hcall : c < J ^ J → Ci 260 [vr 85, vi (c : Int)] (shF n) τ (fun v s => v = b2i (okS t c) ∧ (∀ a i, a ≠ 128 → gi s a i = gi τ a i)) := fun q => c_ir h1 (fun a i p1 p2 _ => f1 a i p1 p2) f2 (by omega) (fun s q _ => ⟨rfl, q⟩)
  have hrec : ∀ (v x : Int) (s : Mm), c < J ^ J → v = b2i (okS t c) → (∀ a i, a ≠ 128 → gi s a i = gi τ a i) → x = cnt (okS t) c + b2i (okS t c) → R 262 13 [some (vr 85), some (vi x), some (vi ((c : Int) + 1))] [] (shF n) 0 0 s (Qi (shF n) (fun v' s' => v' = WS t (ftS t) ∧ Rel xs N s')) := fun v x s q hv hs hx => by
    rw [hx, ← cnt_s]
    exact R_eq (ih (by omega) s (fun a i p1 p2 => by rw [hs a i p2]; exact f1 a i p1 p2) (fun i hi => by rw [hs _ _ (by omega)]; exact f2 i hi)) rfl
  refine v_wyR_L _ c (M1 := fun v s => v = b2i (okS t c) ∧ (∀ a i, a ≠ 128 → gi s a i = gi τ a i)) ?_ ?_ ?_ ?_ ?_ ?_ ?_ ?_ ?_ ?_
  · rw [e12]; omega
  · rw [e12]; omega
  · intro x1 e1 hlt; rw [hx1 x1 e1] at hlt; exact hcall (by omega)
  · intro x1 e1 hlt v s m hv; unfold rg; have := hx1 x1 e1; omega
  · intro x1 e1 hlt v s m hv x8 e8; unfold rg; have := hx1 x1 e1; omega
  · intro x1 e1 hlt v s m hv; unfold rg; have := hx1 x1 e1; omega
  · intro x1 e1 hlt v s m hv x8 e8; unfold rg; have := hx1 x1 e1; omega
  · intro x1 e1 hle
    rw [hx1 x1 e1] at hle
    refine ⟨?_, hfin τ (fun a i p1 p2 _ => f1 a i p1 p2)⟩
    rw [← WS_sum, hJn, show J ^ J = c by omega]
    unfold okS
    rw [hJn]
  · intro x1 e1 hlt v s m hv x8 e8
    rw [hx1 x1 e1] at hlt
    rw [m.1] at hv
    refine hrec v x8 s (by omega) m.1 m.2 (by rw [e8, b2i_z hv]; rfl)
  · intro x1 e1 hlt v s m hv x8 e8
    rw [hx1 x1 e1] at hlt
    rw [m.1] at hv
    refine hrec v x8 s (by omega) m.1 m.2 (by rw [e8, b2i_nz hv]; rfl)
theorem wM_S {xs : Nat → Int} {N : Nat} {σ s2 : Mm} (h : Rel xs N σ) (mt : Mt σ s2) (b hh : Int) (hb : b = -1 ∨ (0 ≤ hh ∧ hh < gi σ 5 0)) : wM (gi s2 5 0).toNat (fH (gi s2 80) b hh) 0 = WS σ (fun k u => ftS σ k u && (decide ((k : Int) ≠ b) || decide ((u : Int) = gi σ 45 hh.toNat))) := by
  obtain ⟨c0, c1, c2, c3, c5, d0, d1, d2, d3, -⟩ := Rel_cnt h
  have r7 := h.2.2.2.2.2.2.1
  have e50 : gi s2 5 0 = gi σ 5 0 := mt.1 _ _ (by omega) (by omega)
  obtain ⟨J, hJ⟩ : ∃ J : Nat, gi σ 5 0 = (J : Int) := ⟨(gi σ 5 0).toNat, by omega⟩
  have hJn : (gi σ 5 0).toNat = J := by omega
  have hj := fun (x : Nat) (q : x < J) => (Rel_j h (j := x) (by omega)).2.2.2
  unfold wM WS
  rw [e50, hJn, show pcN 0 = 0 from rfl, Nat.sub_zero]
  have hbd : ∀ x, x < J → (gi σ 45 x).toNat < J := fun x hx => by have := hj x hx; omega
  have hinj : ∀ a b, a < J → b < J → (gi σ 45 a).toNat = (gi σ 45 b).toNat → a = b := fun a b ha hb e => by
    have p := hj a ha
    have q := hj b hb
    exact r7.2.2.2.2.2.2.1 a b (by show (a : Int) < gi σ 5 0; omega) (by show (b : Int) < gi σ 5 0; omega) (by show gi σ 45 a = gi σ 45 b; omega)
  have hsur : ∀ u, u < J → ∃ x, x < J ∧ (gi σ 45 x).toNat = u := fun u hu => by
    obtain ⟨x, hx, he⟩ := r7.2.2.2.2.2.2.2.1 u (by show (u : Int) < gi σ 5 0; omega)
    have hx' : (x : Int) < gi σ 5 0 := hx
    have he' : gi σ 45 x = (u : Int) := he
    exact ⟨x, by omega, by omega⟩
  refine Eq.trans ?_ (Wc_perm (fit := fun k u => ftS σ k u && (decide ((k : Int) ≠ b) || decide ((u : Int) = gi σ 45 hh.toNat))) (hold := fun x => (gi σ 45 x).toNat) hbd hinj hsur J 0 (fun _ => false))
  refine Wc_cg _ _ _ _ (fun x hx => Nat.zero_testBit x) (fun k hk x hx => ?_)
  unfold fH
  have g80 := mt.2 k (by omega)
  rw [g80, hJn, bi_orF (by omega) (by omega), decide_eq_true hx, Bool.true_and]
  have pj := hj x hx
  by_cases kb : (k : Int) = b
  · have hh2 := hb.resolve_left (by omega)
    have ph := hj hh.toNat (by omega)
    congr 2
    refine decide_eq_decide.mpr ⟨fun q => ?_, fun q => ?_⟩
    · have : x = hh.toNat := by omega
      rw [this]; omega
    · have := hinj x hh.toNat hx (by omega) (by omega)
      omega
  · rw [decide_eq_true kb, Bool.true_or, Bool.true_or]; rfl
theorem v_wy {n : Nat}   {σ : Mm} {P : Int → Mm → Prop} (o1 : FP σ) (o2 : (0 ≤ gi σ 5 0 ∧ gi σ 5 0 ≤ 5)) (o3 : (∀ u, u < 5 → 0 ≤ gi σ 46 u ∧ gi σ 46 u ≤ 8)) (o4 : (∀ h : Nat, (h : Int) < gi σ 5 0 → 0 ≤ gi σ 45 h ∧ gi σ 45 h < 5)) (o5 : ∀ s2 : Mm, Mt σ s2 → (0 ≤ (gi s2 5 0) ∧ (gi s2 5 0) ≤ 5)) (o6 : ∀ s2 : Mm, Mt σ s2 → ((-1 : Int) = -1 ∨ (0 ≤ (0 : Int) ∧ (0 : Int) < (gi s2 5 0)))) (l1 : ∀ s2 : Mm, Mt σ s2 → ∀ x7 : Int, x7 = wM (gi s2 5 0).toNat (fH (gi s2 80) (-1 : Int) (0 : Int)) 0 → ∀ s5 : Mm, (∀ a i, a ≠ 81 → gi s5 a i = gi s2 a i) → P x7 s5) : Ci 144 [vr 3] (shF n) σ P :=
  show R 144 0 [some (vr 3)] [] (shF n) 0 0 σ (Qi (shF n) P) from wpK_R 16 [] ((c_mt  (o1) (o2) (o3) (o4) (fun s2 h3 => (c_ww  (o5 s2 h3) (o6 s2 h3) (fun s5 h6 => And.intro ret0 ⟨rfl, _, rfl, (l1 s2 h3 _ rfl s5 h6)⟩)))))
theorem q_ways {xs : Nat → Int} {N n : Nat} {σ : Mm} (h : Rel xs N σ) : Bi xs N n 144 [vr 3] 262 [vr 85] σ := by
  obtain ⟨c0, c1, c2, c3, c5, d0, d1, d2, d3, -⟩ := Rel_cnt h
  have hsz := fun u (hu : u < 5) => (Rel_w5 h hu).2.2.2.2.1
  have hhd : ∀ x : Nat, (x : Int) < gi σ 5 0 → 0 ≤ gi σ 45 x ∧ gi σ 45 x < 5 := fun x hx => by have := (Rel_j h hx).2.2.2; omega
  refine v_wy ?_ ?_ ?_ ?_ ?_ ?_ ?_
  · exact Rel_FP h
  · omega
  · exact hsz
  · exact hhd
  · intro s2 mt
    rw [mt.1 5 0 (by omega) (by omega)]; omega
  · intro s2 mt; exact Or.inl rfl
  · intro s2 mt x7 e7 s5 f5
    rw [wM_S h mt (-1) 0 (Or.inl rfl)] at e7
    have hsc : ScX σ s5 := fun a i p => by
      rw [f5 a i ?_]
      · refine mt.1 a i ?_ ?_
        · rcases p with p | p
          · unfold kpX at p; omega
          · omega
        · rcases p with p | p
          · unfold kpX at p; omega
          · omega
      · rcases p with p | p
        · unfold kpX at p; omega
        · omega
    refine Ci_mono (r_ways (hsc.rel h)) fun v' s' p => ⟨?_, p.2⟩
    rw [p.1, e7]
    have k : ∀ a i, kpX a → gi s5 a i = gi σ a i := fun a i q => hsc a i (Or.inl q)
    have kf : ∀ a, kpX a → gi s5 a = gi σ a := fun a q => funext fun i => k a i q
    have ef : ftS s5 = ftS σ := by
      funext j u
      unfold ftS ftC bdC Kf
      rw [hsc.V, kf 78 (by unfold kpX; omega), kf 77 (by unfold kpX; omega), kf 76 (by unfold kpX; omega), kf 75 (by unfold kpX; omega)]
    unfold WS
    rw [k 5 0 (by unfold kpX; omega), ef]
    refine Wc_congr _ _ _ _ (fun _ _ => rfl) (fun k x _ => ?_)
    rw [decide_eq_true (show (k : Int) ≠ -1 by omega), Bool.true_or, Bool.and_true]
/-- whose cushion may be whose: bits of holders -/
def whV (s : Mm) (j : Nat) : Int := orF (fun i => anyF (fun c => okS s c && decide (((c / (gi s 5 0).toNat ^ j % (gi s 5 0).toNat : Nat) : Int) = gi s 45 i)) ((gi s 5 0).toNat ^ (gi s 5 0).toNat)) (gi s 5 0).toNat
theorem v_whR_0 {n : Nat}  (j : Int) {M1 : Mm → Prop} {σ : Mm} {P : Int → Mm → Prop} (o1 : ∀ t1 : Mm, t1 = si σ 85 2 (0 : Int) → (0 : Int) ≤ j → j < (gi σ 85 12) → Cv 261 [vr 85] (shF n) t1 M1) (l1 : ∀ t1 : Mm, t1 = si σ 85 2 (0 : Int) → j < (0 : Int) → P (-1) t1) (l2 : ∀ t1 : Mm, t1 = si σ 85 2 (0 : Int) → (0 : Int) ≤ j → (gi σ 85 12) ≤ j → P (-1) t1) (l3 : ∀ t1 : Mm, t1 = si σ 85 2 (0 : Int) → (0 : Int) ≤ j → j < (gi σ 85 12) → ∀ s5 : Mm, M1 s5 → R 263 23 [some (vr 85), some (vi j), some (vi 0), some (vi 0), none] [] (shF n) 0 0 s5 (Qi (shF n) P)) : Ci 263 [vr 85, vi j] (shF n) σ P :=
  show R 263 0 [some (vr 85), some (vi j), none, none, none] [] (shF n) 0 0 σ (Qi (shF n) P) from wpK_R 14 [23, 52] ((show R 200 0 [some (vr 85), _] [] (shF n) 0 0 _ _ from wpK_R 9 [] (And.intro (fun q2 => And.intro ret0 (And.intro (Or.inl rfl) ⟨rfl, _, rfl, And.intro (fun q => absurd q (show ¬ ((0 : Int) ≠ 0) by decide)) (fun _ => And.intro ret0 ⟨rfl, _, rfl, (l1 _ rfl q2)⟩)⟩)) (fun q2 => And.intro (fun q3 => And.intro ret0 (And.intro (Or.inl rfl) ⟨rfl, _, rfl, And.intro (fun q => absurd q (show ¬ ((0 : Int) ≠ 0) by decide)) (fun _ => And.intro ret0 ⟨rfl, _, rfl, (l2 _ rfl (Int.not_lt.mp q2) q3)⟩)⟩)) (fun q3 => And.intro ret0 (And.intro (Or.inr rfl) ⟨rfl, _, rfl, And.intro (fun _ => (Cv_mono (o1 _ rfl (Int.not_lt.mp q2) (Int.not_le.mp q3)) (fun s5 h4 => (l3 _ rfl (Int.not_lt.mp q2) (Int.not_le.mp q3) s5 h4)))) (fun q => absurd (show (1 : Int) ≠ 0 by decide) q)⟩))))))
theorem v_whR_23 {n : Nat}  (j : Int) (bt : Int) (c : Nat) (z : Option PV) {M1 : Int → Mm → Prop} {σ : Mm} {P : Int → Mm → Prop} (o1 : (0 ≤ (gi σ 85 12) ∧ (gi σ 85 12) ≤ 5)) (o2 : (0 ≤ (gi σ 85 12) ∧ (gi σ 85 12) ≤ 6)) (o3 : ∀ x1 : Int, x1 = (((gi σ 85 12).toNat ^ (gi σ 85 12).toNat : Nat) : Int) → (c : Int) < x1 → Ci 260 [vr 85, vi (c : Int)] (shF n) σ M1) (o4 : ∀ x1 : Int, x1 = (((gi σ 85 12).toNat ^ (gi σ 85 12).toNat : Nat) : Int) → (c : Int) < x1 → ∀ (v5 : Int) (s4 : Mm), M1 v5 s4 → v5 = (0 : Int) → rg ((c : Int) + 1)) (l1 : ∀ x1 : Int, x1 = (((gi σ 85 12).toNat ^ (gi σ 85 12).toNat : Nat) : Int) → x1 ≤ (c : Int) → P bt σ) (l2 : ∀ x1 : Int, x1 = (((gi σ 85 12).toNat ^ (gi σ 85 12).toNat : Nat) : Int) → (c : Int) < x1 → ∀ (v5 : Int) (s4 : Mm), M1 v5 s4 → v5 ≠ (0 : Int) → R 263 52 [some (vr 85), some (vi j), some (vi bt), some (vi (c : Int)), some (vi 0)] [] (shF n) 0 0 s4 (Qi (shF n) P)) (l3 : ∀ x1 : Int, x1 = (((gi σ 85 12).toNat ^ (gi σ 85 12).toNat : Nat) : Int) → (c : Int) < x1 → ∀ (v5 : Int) (s4 : Mm), M1 v5 s4 → v5 = (0 : Int) → R 263 23 [some (vr 85), some (vi j), some (vi bt), some (vi ((c : Int) + 1)), z] [] (shF n) 0 0 s4 (Qi (shF n) P)) : R 263 23 [some (vr 85), some (vi j), some (vi bt), some (vi (c : Int)), z] [] (shF n) 0 0 σ (Qi (shF n) P) :=
  wpK_R 15 [23, 52] ((c_pw  (o1) (o2) (And.intro (fun q2 => And.intro ret0 ⟨rfl, _, rfl, (l1 _ rfl q2)⟩) (fun q2 => (Ci_mono (o3 _ rfl (Int.not_le.mp q2)) (fun v5 s4 h3 => And.intro (fun q6 => (l2 _ rfl (Int.not_le.mp q2) v5 s4 h3 q6)) (fun q6 => (have k7 := (o4 _ rfl (Int.not_le.mp q2) v5 s4 h3 (Classical.not_not.mp q6)); And.intro k7 ((l3 _ rfl (Int.not_le.mp q2) v5 s4 h3 (Classical.not_not.mp q6)))))))))))
theorem v_whR_52 {n : Nat}  (j : Int) (bt : Int) (c : Nat) (i : Nat) {σ : Mm} {P : Int → Mm → Prop} (o1 : (gi σ 85 12) ≤ (i : Int) → rg ((c : Int) + 1)) (o2 : (i : Int) < (gi σ 85 12) → (0 ≤ (i : Int) ∧ (i : Int) < 10)) (o3 : (i : Int) < (gi σ 85 12) → (0 ≤ j ∧ j < 5)) (o4 : (i : Int) < (gi σ 85 12) → (gi σ 111 i) ≠ (gi σ 128 j.toNat) → ∀ x6 : Int, x6 = oor bt (0 : Int) → rg ((i : Int) + 1)) (o5 : (i : Int) < (gi σ 85 12) → (gi σ 111 i) = (gi σ 128 j.toNat) → ∀ x8 : Int, x8 = oor bt (oshl (1 : Int) (i : Int)) → rg ((i : Int) + 1)) (l1 : (gi σ 85 12) ≤ (i : Int) → R 263 23 [some (vr 85), some (vi j), some (vi bt), some (vi ((c : Int) + 1)), some (vi (i : Int))] [] (shF n) 0 0 σ (Qi (shF n) P)) (l2 : (i : Int) < (gi σ 85 12) → (gi σ 111 i) ≠ (gi σ 128 j.toNat) → ∀ x6 : Int, x6 = oor bt (0 : Int) → R 263 52 [some (vr 85), some (vi j), some (vi x6), some (vi (c : Int)), some (vi ((i : Int) + 1))] [] (shF n) 0 0 σ (Qi (shF n) P)) (l3 : (i : Int) < (gi σ 85 12) → (gi σ 111 i) = (gi σ 128 j.toNat) → ∀ x8 : Int, x8 = oor bt (oshl (1 : Int) (i : Int)) → R 263 52 [some (vr 85), some (vi j), some (vi x8), some (vi (c : Int)), some (vi ((i : Int) + 1))] [] (shF n) 0 0 σ (Qi (shF n) P)) : R 263 52 [some (vr 85), some (vi j), some (vi bt), some (vi (c : Int)), some (vi (i : Int))] [] (shF n) 0 0 σ (Qi (shF n) P) :=
  wpK_R 23 [23, 52] (And.intro (fun q1 => (have k2 := (o1 q1); And.intro k2 ((l1 q1)))) (fun q1 => (have k3 := (o2 (Int.not_le.mp q1)); And.intro k3 ((have k4 := (o3 (Int.not_le.mp q1)); And.intro k4 (And.intro (fun q5 => (have k7 := (o4 (Int.not_le.mp q1) q5 _ rfl); And.intro k7 ((l2 (Int.not_le.mp q1) q5 _ rfl)))) (fun q5 => (have k9 := (o5 (Int.not_le.mp q1) (Classical.not_not.mp q5) _ rfl); And.intro k9 ((l3 (Int.not_le.mp q1) (Classical.not_not.mp q5) _ rfl))))))))))
theorem r_whose {xs : Nat → Int} {N n : Nat} {s : Mm} (h : Rel xs N s) (j : Int) : Ci 263 [vr 85, vi j] (shF n) s (fun v' s' => v' = (if 0 ≤ j ∧ j < gi s 5 0 then whV s j.toNat else -1) ∧ Rel xs N s') := by
  obtain ⟨c0, c1, c2, c3, c5, d0, d1, d2, d3, -⟩ := Rel_cnt h
  have h1 : Rel xs N (si s 85 2 0) := Rel_th h
  have hW : ∀ j, whV s j = whV (si s 85 2 0) j := fun _ => rfl
  rw [hW]
  obtain ⟨t, ht⟩ : ∃ t, t = si s 85 2 0 := ⟨_, rfl⟩
  rw [← ht] at h1 ⊢
  have hJ5 : gi t 5 0 = gi s 5 0 := by rw [ht]; rfl
  obtain ⟨J, hJ⟩ : ∃ J : Nat, gi t 5 0 = (J : Int) := ⟨(gi t 5 0).toNat, by omega⟩
  have hJn : (gi t 5 0).toNat = J := by omega
  have hpw := pw_bd (b := J) (k := J) (by omega) (by omega)
  have hfin : ∀ τ, (∀ a i, a ≠ 127 → a ≠ 128 → gi τ a i = gi t a i) → Rel xs N τ := fun τ f => Rel_M h1 fun a i p => by
    refine f a i ?_ ?_
    · rintro rfl; rcases p with p | p
      · omega
      · simp [kpM, hT, hf] at p
    · rintro rfl; rcases p with p | p
      · omega
      · simp [kpM, hT, hf] at p
  refine v_whR_0 j (M1 := Lc t) (fun t1 e1 _ _ => by rw [e1, ← ht]; exact c_lc (Rel_FP h1) h1.2.2.2.2.2.2.2.2.2.2.2.2.1 (fun s q => q)) ?_ ?_ ?_
  · intro t1 e1 hj; rw [e1, ← ht]; exact ⟨by rw [if_neg (by omega)], h1⟩
  · intro t1 e1 h0 hj; rw [e1, ← ht]; exact ⟨by rw [if_neg (by omega)], h1⟩
  · intro t1 e1 h0 hj s3 lc
    rw [if_pos (by omega)]
    obtain ⟨jn, hjn⟩ : ∃ jn : Nat, j = (jn : Int) := ⟨j.toNat, by omega⟩
    have hjt : j.toNat = jn := by omega
    rw [hjt]
    have hjJ : jn < J := by omega
    obtain ⟨pr, hpr⟩ : ∃ pr : Nat → Nat → Bool, pr = fun i c => okS t c && decide (((c / J ^ jn % J : Nat) : Int) = gi t 45 i) := ⟨_, rfl⟩
    have hval : whV t jn = orF (fun i => anyF (pr i) (J ^ J)) J := by unfold whV; rw [hJn, hpr]
    rw [hval]
    refine loopUp (N := J ^ J) (I := fun c => ∀ (bt : Int) (z : Option PV) (τ : Mm), (∀ a i, a ≠ 127 → a ≠ 128 → gi τ a i = gi t a i) → (∀ i, i < Kf t → gi τ 127 i = b2i (!skN (gi t 78) (gi t 76) (Kf t) (Kf t) i)) → rg bt → (∀ i, i < 32 → bi bt i = (decide (i < J) && anyF (pr i) c)) → R 263 23 [some (vr 85), some (vi j), some (vi bt), some (vi (c : Int)), z] [] (shF n) 0 0 τ (Qi (shF n) (fun v' s' => v' = orF (fun i => anyF (pr i) (J ^ J)) J ∧ Rel xs N s'))) (fun c hc ih => ?_) 0 (by omega) 0 none s3 (fun a i p _ => lc.1 a i p) lc.2 (by unfold rg; omega) (fun i _ => by rw [bi_0]; cases decide (i < J) <;> rfl)
    intro bt z τ f1 f2 f3 f4
    have e12 : gi τ 85 12 = (J : Int) := by rw [f1 _ _ (by omega) (by omega), (Rel_cnt h1).2.2.2.2.2.1]; exact hJ
    have hx1 : ∀ x1 : Int, x1 = (((gi τ 85 12).toNat ^ (gi τ 85 12).toNat : Nat) : Int) → x1 = ((J ^ J : Nat) : Int) := fun x1 e => by rw [e, e12, Int.toNat_natCast]
    have hcall : c < J ^ J → Ci 260 [vr 85, vi (c : Int)] (shF n) τ (fun v s => v = b2i (okS t c) ∧ (∀ a i, a ≠ 128 → gi s a i = gi τ a i) ∧ (okS t c = true → gi s 128 jn = ((c / J ^ jn % J : Nat) : Int))) := fun q => c_ir h1 (fun a i p1 p2 _ => f1 a i p1 p2) f2 (by omega) (fun s q r => ⟨rfl, q, fun y => by have := r y jn (by omega); rw [hJn] at this; exact this⟩)
    refine v_whR_23 j bt c z (M1 := fun v s => v = b2i (okS t c) ∧ (∀ a i, a ≠ 128 → gi s a i = gi τ a i) ∧ (okS t c = true → gi s 128 jn = ((c / J ^ jn % J : Nat) : Int))) ?_ ?_ ?_ ?_ ?_ ?_ ?_
    · rw [e12]; omega
    · rw [e12]; omega
    · intro x1 e1 hlt; rw [hx1 x1 e1] at hlt; exact hcall (by omega)
    · intro x1 e1 hlt v s m hv; unfold rg; have := hx1 x1 e1; omega
    · intro x1 e1 hle
      rw [hx1 x1 e1] at hle
      refine ⟨bi_ext f3 (orF_rg _ _) fun i hi => ?_, hfin τ f1⟩
      rw [f4 i hi, bi_orF hi (by omega), show J ^ J = c by omega]
    · intro x1 e1 hlt v s m hv
      rw [hx1 x1 e1] at hlt
      obtain ⟨m1, m2, m3⟩ := m
      rw [m1] at hv
      have hok := b2i_nz hv
      have h128 := m3 hok
      refine loopUp (N := J) (I := fun i => ∀ bt' : Int, rg bt' → (∀ x, x < 32 → bi bt' x = (decide (x < J) && (anyF (pr x) c || (decide (x < i) && pr x c)))) → R 263 52 [some (vr 85), some (vi j), some (vi bt'), some (vi (c : Int)), some (vi (i : Int))] [] (shF n) 0 0 s (Qi (shF n) (fun v' s' => v' = orF (fun i => anyF (pr i) (J ^ J)) J ∧ Rel xs N s'))) (fun i hi ihi => ?_) 0 (by omega) bt f3 (fun x hx => by rw [f4 x hx, decide_eq_false (show ¬ x < 0 by omega), Bool.false_and, Bool.or_false])
      intro bt' g3 g4
      have g12 : gi s 85 12 = (J : Int) := by rw [m2 _ _ (by omega)]; exact e12
      have g111 : i < J → gi s 111 i = gi t 45 i := fun q => by rw [m2 _ _ (by omega), f1 _ _ (by omega) (by omega)]; exact (Rel_w5 h1 (by omega)).1
      have hpc : i < J → (pr i c = true ↔ gi s 111 i = gi s 128 j.toNat) := fun q => by
        rw [hpr, hjt, h128, g111 q]
        simp only [hok, Bool.true_and, decide_eq_true_eq]
        exact ⟨fun y => y.symm, fun y => y.symm⟩
      refine v_whR_52 j bt' c i ?_ ?_ ?_ ?_ ?_ ?_ ?_ ?_
      · intro hge2; unfold rg; omega
      · intro hlt2; omega
      · intro hlt2; omega
      · intro hlt2 y x6 e6; unfold rg; omega
      · intro hlt2 y x6 e6; unfold rg; omega
      · intro hge2
        refine R_eq (ih (by omega) bt' _ s (fun a x p1 p2 => by rw [m2 a x p2]; exact f1 a x p1 p2) (fun x hx => by rw [m2 _ _ (by omega)]; exact f2 x hx) g3 (fun x hx => ?_)) rfl
        rw [g4 x hx, anyF_s]
        by_cases xJ : x < J
        · rw [decide_eq_true (show x < i by omega), Bool.true_and]
        · rw [decide_eq_false xJ, Bool.false_and, Bool.false_and]
      · intro hlt2 hne x6 e6
        rw [oor_0 g3] at e6
        rw [e6]
        refine R_eq (ihi (by omega) bt' g3 (fun x hx => ?_)) rfl
        rw [g4 x hx]
        by_cases xi : x = i
        · have hf : pr i c = false := by cases y : pr i c with | false => rfl | true => exact absurd ((hpc (by omega)).mp y) hne
          rw [xi, hf, Bool.and_false, Bool.and_false]
        · rw [decide_eq_decide.mpr (show x < i ↔ x < i + 1 by omega)]
      · intro hlt2 he x8 e8
        have ht' := (hpc (by omega)).mpr he
        rw [e8]
        refine R_eq (ihi (by omega) _ (oor_rg _ _) (fun x hx => ?_)) rfl
        rw [bi_or, g4 x hx, shl1 (by omega) hx]
        by_cases xi : x = i
        · rw [xi, ht', decide_eq_true rfl, Bool.or_true, decide_eq_true (show i < J by omega), decide_eq_true (show i < i + 1 by omega), Bool.true_and, Bool.true_and, Bool.or_true]
        · rw [decide_eq_false xi, Bool.or_false, decide_eq_decide.mpr (show x < i ↔ x < i + 1 by omega)]
    · intro x1 e1 hlt v s m hv
      rw [hx1 x1 e1] at hlt
      obtain ⟨m1, m2, m3⟩ := m
      rw [m1] at hv
      have hok := b2i_z hv
      refine R_eq (ih (by omega) bt _ s (fun a x p1 p2 => by rw [m2 a x p2]; exact f1 a x p1 p2) (fun x hx => by rw [m2 _ _ (by omega)]; exact f2 x hx) f3 (fun x hx => ?_)) rfl
      rw [f4 x hx, anyF_s, show pr x c = false by rw [hpr]; simp only [hok, Bool.false_and], Bool.or_false]
theorem v_wh_0 {n : Nat}  (j : Int) {σ : Mm} {P : Int → Mm → Prop} (o1 : (0 : Int) ≤ j → j < (gi σ 5 0) → FP σ) (o2 : (0 : Int) ≤ j → j < (gi σ 5 0) → (0 ≤ gi σ 5 0 ∧ gi σ 5 0 ≤ 5)) (o3 : (0 : Int) ≤ j → j < (gi σ 5 0) → (∀ u, u < 5 → 0 ≤ gi σ 46 u ∧ gi σ 46 u ≤ 8)) (o4 : (0 : Int) ≤ j → j < (gi σ 5 0) → (∀ h : Nat, (h : Int) < gi σ 5 0 → 0 ≤ gi σ 45 h ∧ gi σ 45 h < 5)) (l1 : j < (0 : Int) → P (-1) σ) (l2 : (0 : Int) ≤ j → (gi σ 5 0) ≤ j → P (-1) σ) (l3 : (0 : Int) ≤ j → j < (gi σ 5 0) → ∀ s4 : Mm, Mt σ s4 → R 145 29 [some (vr 3), some (vi j), some (vi 0), some (vi 0)] [] (shF n) 0 0 s4 (Qi (shF n) P)) : Ci 145 [vr 3, vi j] (shF n) σ P :=
  show R 145 0 [some (vr 3), some (vi j), none, none] [] (shF n) 0 0 σ (Qi (shF n) P) from wpK_R 16 [29] ((show R 103 0 [some (vr 3), _] [] (shF n) 0 0 _ _ from wpK_R 10 [] (And.intro (fun q1 => And.intro ret0 (And.intro (Or.inl rfl) ⟨rfl, _, rfl, And.intro (fun q => absurd q (show ¬ ((0 : Int) ≠ 0) by decide)) (fun _ => And.intro ret0 ⟨rfl, _, rfl, (l1 q1)⟩)⟩)) (fun q1 => And.intro (fun q2 => And.intro ret0 (And.intro (Or.inl rfl) ⟨rfl, _, rfl, And.intro (fun q => absurd q (show ¬ ((0 : Int) ≠ 0) by decide)) (fun _ => And.intro ret0 ⟨rfl, _, rfl, (l2 (Int.not_lt.mp q1) q2)⟩)⟩)) (fun q2 => And.intro ret0 (And.intro (Or.inr rfl) ⟨rfl, _, rfl, And.intro (fun _ => (c_mt  (o1 (Int.not_lt.mp q1) (Int.not_le.mp q2)) (o2 (Int.not_lt.mp q1) (Int.not_le.mp q2)) (o3 (Int.not_lt.mp q1) (Int.not_le.mp q2)) (o4 (Int.not_lt.mp q1) (Int.not_le.mp q2)) (fun s4 h5 => (l3 (Int.not_lt.mp q1) (Int.not_le.mp q2) s4 h5)))) (fun q => absurd (show (1 : Int) ≠ 0 by decide) q)⟩))))))
theorem v_wh_L {n : Nat}  (j : Int) (bt : Int) (i : Nat) {σ : Mm} {P : Int → Mm → Prop} (o1 : (i : Int) < (gi σ 5 0) → (0 ≤ (gi σ 5 0) ∧ (gi σ 5 0) ≤ 5)) (o2 : (i : Int) < (gi σ 5 0) → (j = -1 ∨ (0 ≤ (i : Int) ∧ (i : Int) < (gi σ 5 0)))) (o3 : (i : Int) < (gi σ 5 0) → ∀ x5 : Int, x5 = wM (gi σ 5 0).toNat (fH (gi σ 80) j (i : Int)) 0 → ∀ s3 : Mm, (∀ a i, a ≠ 81 → gi s3 a i = gi σ a i) → x5 ≤ (0 : Int) → rg ((i : Int) + 1)) (o4 : (i : Int) < (gi σ 5 0) → ∀ x5 : Int, x5 = wM (gi σ 5 0).toNat (fH (gi σ 80) j (i : Int)) 0 → ∀ s3 : Mm, (∀ a i, a ≠ 81 → gi s3 a i = gi σ a i) → (0 : Int) < x5 → ∀ x8 : Int, x8 = oor bt (oshl (1 : Int) (i : Int)) → rg ((i : Int) + 1)) (l1 : (gi σ 5 0) ≤ (i : Int) → P bt σ) (l2 : (i : Int) < (gi σ 5 0) → ∀ x5 : Int, x5 = wM (gi σ 5 0).toNat (fH (gi σ 80) j (i : Int)) 0 → ∀ s3 : Mm, (∀ a i, a ≠ 81 → gi s3 a i = gi σ a i) → x5 ≤ (0 : Int) → R 145 29 [some (vr 3), some (vi j), some (vi bt), some (vi ((i : Int) + 1))] [] (shF n) 0 0 s3 (Qi (shF n) P)) (l3 : (i : Int) < (gi σ 5 0) → ∀ x5 : Int, x5 = wM (gi σ 5 0).toNat (fH (gi σ 80) j (i : Int)) 0 → ∀ s3 : Mm, (∀ a i, a ≠ 81 → gi s3 a i = gi σ a i) → (0 : Int) < x5 → ∀ x8 : Int, x8 = oor bt (oshl (1 : Int) (i : Int)) → R 145 29 [some (vr 3), some (vi j), some (vi x8), some (vi ((i : Int) + 1))] [] (shF n) 0 0 s3 (Qi (shF n) P)) : R 145 29 [some (vr 3), some (vi j), some (vi bt), some (vi (i : Int))] [] (shF n) 0 0 σ (Qi (shF n) P) :=
  wpK_R 23 [29] (And.intro (fun q1 => And.intro ret0 ⟨rfl, _, rfl, (l1 q1)⟩) (fun q1 => (c_ww  (o1 (Int.not_le.mp q1)) (o2 (Int.not_le.mp q1)) (fun s3 h4 => And.intro (fun q6 => (have k7 := (o3 (Int.not_le.mp q1) _ rfl s3 h4 q6); And.intro k7 ((l2 (Int.not_le.mp q1) _ rfl s3 h4 q6)))) (fun q6 => (have k9 := (o4 (Int.not_le.mp q1) _ rfl s3 h4 (Int.not_le.mp q6) _ rfl); And.intro k9 ((l3 (Int.not_le.mp q1) _ rfl s3 h4 (Int.not_le.mp q6) _ rfl))))))))
theorem q_whose {xs : Nat → Int} {N n : Nat} {σ : Mm} (h : Rel xs N σ) (j : Int) : Bi xs N n 145 [vr 3, vi j] 263 [vr 85, vi j] σ := by
  obtain ⟨c0, c1, c2, c3, c5, d0, d1, d2, d3, -⟩ := Rel_cnt h
  have hsz := fun u (hu : u < 5) => (Rel_w5 h hu).2.2.2.2.1
  have hhd : ∀ x : Nat, (x : Int) < gi σ 5 0 → 0 ≤ gi σ 45 x ∧ gi σ 45 x < 5 := fun x hx => by have := (Rel_j h hx).2.2.2; omega
  have hno : ¬ (0 ≤ j ∧ j < gi σ 5 0) → Ci 263 [vr 85, vi j] (shF n) σ (fun v' s' => v' = -1 ∧ Rel xs N s') := fun q => Ci_mono (r_whose h j) fun v' s' p => ⟨by rw [p.1, if_neg q], p.2⟩
  refine v_wh_0 j ?_ ?_ ?_ ?_ ?_ ?_ ?_
  · intros; exact Rel_FP h
  · intros; omega
  · intros; exact hsz _ (by assumption)
  · intros; exact hhd _ (by assumption)
  · intros; exact hno (by omega)
  · intros; exact hno (by omega)
  · intro h0 hj s4 mt
    obtain ⟨J, hJ⟩ : ∃ J : Nat, gi σ 5 0 = (J : Int) := ⟨(gi σ 5 0).toNat, by omega⟩
    have hJn : (gi σ 5 0).toNat = J := by omega
    obtain ⟨pr, hpr⟩ : ∃ pr : Nat → Bool, pr = fun i => anyF (fun c => okS σ c && decide (((c / J ^ j.toNat % J : Nat) : Int) = gi σ 45 i)) (J ^ J) := ⟨_, rfl⟩
    have hval : whV σ j.toNat = orF pr J := by unfold whV; rw [hJn, hpr]
    have hW : ∀ i : Nat, i < J → (0 < wM (gi s4 5 0).toNat (fH (gi s4 80) j (i : Int)) 0 ↔ pr i = true) := fun i hi => by
      rw [wM_S h mt j (i : Int) (Or.inr (by omega)), ← WS_sum, cnt_pos, Int.toNat_natCast, hpr, hJn, anyF_iff, anyF_iff]
      constructor
      · rintro ⟨c, hc, ho⟩
        refine ⟨c, hc, ?_⟩
        rw [okC_iff] at ho
        rw [Bool.and_eq_true]
        refine ⟨?_, decide_eq_true ?_⟩
        · unfold okS
          rw [hJn, okC_iff]
          intro t ht
          obtain ⟨a1, a2, a3⟩ := ho t ht
          rw [Bool.and_eq_true] at a3
          exact ⟨a1, a2, a3.1⟩
        · obtain ⟨a1, a2, a3⟩ := ho j.toNat (by omega)
          rw [Bool.and_eq_true, Nat.zero_add, decide_eq_false (by omega), Bool.false_or] at a3
          exact of_decide_eq_true a3.2
      · rintro ⟨c, hc, ho⟩
        refine ⟨c, hc, ?_⟩
        rw [Bool.and_eq_true] at ho
        obtain ⟨ho1, ho2⟩ := ho
        unfold okS at ho1
        rw [hJn, okC_iff] at ho1
        rw [okC_iff]
        intro t ht
        obtain ⟨a1, a2, a3⟩ := ho1 t ht
        refine ⟨a1, a2, ?_⟩
        rw [Bool.and_eq_true]
        refine ⟨a3, ?_⟩
        rw [Nat.zero_add]
        by_cases e : (t : Int) = j
        · rw [Bool.or_eq_true]; right
          have et : t = j.toNat := by omega
          rw [et]; exact ho2
        · rw [decide_eq_true e]; rfl
    have hsame : ∀ τ : Mm, (∀ a i, a ≠ 81 → gi τ a i = gi s4 a i) → ScX σ τ := fun τ f a i p => by
      have p1 : a ≠ 79 ∧ a ≠ 80 ∧ a ≠ 81 := by
        rcases p with p | p
        · unfold kpX at p; omega
        · omega
      rw [f a i p1.2.2]; exact mt.1 a i p1.1 p1.2.1
    refine loopUp (N := J) (I := fun i => ∀ τ : Mm, (∀ a i, a ≠ 81 → gi τ a i = gi s4 a i) → R 145 29 [some (vr 3), some (vi j), some (vi (orF pr i)), some (vi (i : Int))] [] (shF n) 0 0 τ (Qi (shF n) (fun v s => Ci 263 [vr 85, vi j] (shF n) s (fun v' s' => v' = v ∧ Rel xs N s')))) (fun i hi ih => ?_) 0 (by omega) s4 (fun _ _ _ => rfl)
    intro τ f
    have g50 : gi τ 5 0 = (J : Int) := by rw [f _ _ (by omega), mt.1 _ _ (by omega) (by omega)]; exact hJ
    have g80 : gi τ 80 = gi s4 80 := funext fun i => f 80 i (by omega)
    have g5' : gi τ 5 0 = gi s4 5 0 := f _ _ (by omega)
    refine v_wh_L j _ i ?_ ?_ ?_ ?_ ?_ ?_ ?_
    · intro hlt; omega
    · intro hlt; right; omega
    · intro hlt x5 e5 s3 f3 hle; unfold rg; omega
    · intro hlt x5 e5 s3 f3 hle x8 e8; unfold rg; omega
    · intro hge
      have sc := hsame τ f
      refine Ci_mono (r_whose (sc.rel h) j) fun v' s' p => ⟨?_, p.2⟩
      have k : ∀ a i, kpX a → gi τ a i = gi σ a i := fun a i q => sc a i (Or.inl q)
      have kf : ∀ a, kpX a → gi τ a = gi σ a := fun a q => funext fun i => k a i q
      have ew : whV τ j.toNat = whV σ j.toNat := by
        unfold whV okS ftS ftC bdC Kf
        rw [sc.V, kf 78 (by unfold kpX; omega), kf 77 (by unfold kpX; omega), kf 76 (by unfold kpX; omega), kf 75 (by unfold kpX; omega), kf 45 (by unfold kpX; omega), k 5 0 (by unfold kpX; omega)]
      rw [p.1, if_pos ⟨h0, by rw [k 5 0 (by unfold kpX; omega)]; exact hj⟩, ew, hval, show J = i by omega]
    · intro hlt x5 e5 s3 f3 hle
      rw [g5', g80] at e5
      refine R_eq (ih (by omega) s3 (fun a q p => by rw [f3 a q p]; exact f a q p)) ?_
      have hf : pr i = false := by
        cases y : pr i with
        | false => rfl
        | true => have := (hW i (by omega)).mpr y; omega
      rw [orF_n hf]; rfl
    · intro hlt x5 e5 s3 f3 hpos x8 e8
      rw [g5', g80] at e5
      refine R_eq (ih (by omega) s3 (fun a q p => by rw [f3 a q p]; exact f a q p)) ?_
      rw [orF_y ((hW i (by omega)).mp (by omega)), e8]; rfl
