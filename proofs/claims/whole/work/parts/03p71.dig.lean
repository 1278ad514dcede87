/-! AIRING: homes, sums, digits, the first least plan -/
def Hm (T V : Nat → Nat → Int) (c : Nat) : Nat := if V 0 0 ≤ T 6 c then (V 5 (V 1 c).toNat).toNat else if lies V 0 (V 6 0) c then 0 else if lies V 1 (V 6 1) c then 1 else if lies V 2 (V 6 2) c then 2 else if lies V 3 (V 6 3) c then 3 else 4
theorem Hm_HD {T V : Nat → Nat → Int} : HD (Hm T V) T V := fun c _ hd => by unfold Hm; rw [if_pos hd]
theorem Hm_HI {T V : Nat → Nat → Int} (hb : BkOK T) (w : WI T V) (uh : UH T V) : HI (Hm T V) V := fun u p hu hp => by
  have hC := hb.2.1
  have h4 := w.1.2.2.2.1 u p hu hp
  have h6 := w.1.2.2.1 u hu
  obtain ⟨c, hc⟩ : ∃ c, c = (V 7 (u * 8 + p)).toNat := ⟨_, rfl⟩
  have hf := w.2.1 u p hu hp
  rw [← hc] at hf ⊢
  have hn : ¬ V 0 0 ≤ T 6 c := fun q => by
    have := w.2.2.2.1 c (by omega) (uh c (by omega) q)
    omega
  have hl : lies V u (V 6 u) c = true := lies_iff.mpr ⟨p, by omega, hp, by omega⟩
  have ho : ∀ u', u' < 5 → u' ≠ u → lies V u' (V 6 u') c = false := fun u' hu' hne => by
    cases q : lies V u' (V 6 u') c with
    | false => rfl
    | true =>
      obtain ⟨p', hp8, hp', he⟩ := lies_iff.mp q
      exact absurd (w.2.2.1 u' p' u p hu' hu hp' hp (by omega)).1 hne
  unfold Hm
  rw [if_neg hn]
  have : u = 0 ∨ u = 1 ∨ u = 2 ∨ u = 3 ∨ u = 4 := by omega
  rcases this with rfl | rfl | rfl | rfl | rfl
  · rw [if_pos hl]
  · rw [ho 0 (by omega) (by omega), if_neg (by decide), if_pos hl]
  · rw [ho 0 (by omega) (by omega), if_neg (by decide), ho 1 (by omega) (by omega), if_neg (by decide), if_pos hl]
  · rw [ho 0 (by omega) (by omega), if_neg (by decide), ho 1 (by omega) (by omega), if_neg (by decide), ho 2 (by omega) (by omega), if_neg (by decide), if_pos hl]
  · rw [ho 0 (by omega) (by omega), if_neg (by decide), ho 1 (by omega) (by omega), if_neg (by decide), ho 2 (by omega) (by omega), if_neg (by decide), ho 3 (by omega) (by omega), if_neg (by decide)]
theorem sumF_add {f g : Nat → Int} : ∀ k : Nat, sumF (fun q => f q + g q) k = sumF f k + sumF g k := by
  intro k
  induction k with
  | zero => rfl
  | succ k ih => simp only [sumF]; rw [ih]; omega
theorem sumF_zero {f : Nat → Int} : ∀ k : Nat, (∀ q, q < k → f q = 0) → sumF f k = 0 := by
  intro k
  induction k with
  | zero => intro _; rfl
  | succ k ih => intro h; simp only [sumF]; rw [ih fun q hq => h q (by omega), h k (by omega)]; rfl
theorem sumF_swap {f : Nat → Nat → Int} {k : Nat} : ∀ m : Nat, sumF (fun i => sumF (fun u => f i u) k) m = sumF (fun u => sumF (fun i => f i u) m) k := by
  intro m
  induction m with
  | zero => exact (sumF_zero k fun q _ => rfl).symm
  | succ m ih =>
    simp only [sumF]
    rw [sumF_add, ih]
theorem sumF_one {f : Nat → Int} {h : Nat} : ∀ k : Nat, (∀ q, q < k → q ≠ h → f q = 0) → sumF f k = if h < k then f h else 0 := by
  intro k
  induction k with
  | zero => intro _; rw [if_neg (by omega)]; rfl
  | succ k ih =>
    intro hz
    simp only [sumF]
    rw [ih fun q hq => hz q (by omega)]
    by_cases e : h = k
    · subst e; rw [if_neg (by omega), if_pos (by omega)]; omega
    · rw [hz k (by omega) (Ne.symm e)]
      by_cases q : h < k
      · rw [if_pos q, if_pos (by omega)]; omega
      · rw [if_neg q, if_neg (by omega)]; rfl
theorem sumF_upd {f g : Nat → Int} {w : Nat} : ∀ k : Nat, w < k → (∀ q, q < k → q ≠ w → f q = g q) → sumF f k = sumF g k - g w + f w := by
  intro k
  induction k with
  | zero => intro h; omega
  | succ k ih =>
    intro hw h
    simp only [sumF]
    by_cases e : w = k
    · subst e
      rw [sumF_congr fun q hq => h q (by omega) (by omega)]; omega
    · rw [ih (by omega) (fun q hq => h q (by omega)), h k (by omega) (Ne.symm e)]; omega
theorem sumF_le {f g : Nat → Int} : ∀ k : Nat, (∀ q, q < k → f q ≤ g q) → sumF f k ≤ sumF g k := by
  intro k
  induction k with
  | zero => intro _; exact Int.le_refl _
  | succ k ih => intro h; simp only [sumF]; have := ih fun q hq => h q (by omega); have := h k (by omega); omega
/-- how many bits more -/
def dk (A V : Nat → Nat → Int) (K : Nat) : Int := sumF (fun i => cnt (bi (A 8 i)) 10 - cnt (bi (V 8 i)) 10) K
theorem cnt_sep {a v : Int} {b : Nat → Int} {J : Nat} {H : Nat → Nat} (h1 : ∀ x, x < 10 → ∀ u, u < J → u ≠ H x → bi (b u) x = bi v x) (h2 : ∀ x, x < 10 → H x < J → bi a x = bi (b (H x)) x) (h3 : ∀ x, x < 10 → J ≤ H x → bi a x = bi v x) : ∀ k : Nat, k ≤ 10 → cnt (bi a) k - cnt (bi v) k = sumF (fun u => cnt (bi (b u)) k - cnt (bi v) k) J := by
  intro k
  induction k with
  | zero => intro _; exact (sumF_zero (f := fun u => cnt (bi (b u)) 0 - cnt (bi v) 0) J fun q _ => rfl).symm
  | succ k ih =>
    intro hk
    have ih := ih (by omega)
    have e : sumF (fun u => cnt (bi (b u)) (k + 1) - cnt (bi v) (k + 1)) J = sumF (fun u => (cnt (bi (b u)) k - cnt (bi v) k) + (b2i (bi (b u) k) - b2i (bi v k))) J := sumF_congr fun q _ => by rw [cnt_s, cnt_s]; omega
    rw [e, sumF_add, ← ih, sumF_one (h := H k) J (fun q hq hne => by rw [h1 k (by omega) q hq hne]; omega), cnt_s, cnt_s]
    by_cases q : H k < J
    · rw [if_pos q, h2 k (by omega) q]; omega
    · rw [if_neg q, h3 k (by omega) (by omega)]; omega
/-- days by a plan: cushion u is aired on Monday pl u -/
def plA (d : Nat) (pl : Nat → Int) (k u : Nat) : Bool := decide (pl u = (((k + 6 - d) / 7 : Nat) : Int))
def pl1 (u : Nat) (m : Int) (x : Nat) : Int := if x = u then m else -1
theorem dk_sep {T V : Nat → Nat → Int} (hb : BkOK T) (w : WI T V) (uh : UH T V) (pl : Nat → Int) (k K : Nat) : dk (pD T V (plA (d0 V) pl) k) V K = sumF (fun u => dk (pD T V (plA (d0 V) (pl1 u (pl u))) k) V K) (T 0 0).toNat := by
  unfold dk
  rw [← sumF_swap]
  refine sumF_congr fun i _ => ?_
  have hi := Hm_HI hb w uh
  have hd := Hm_HD (T := T) (V := V)
  have hJ := hb.1
  refine cnt_sep (H := Hm T V) (fun x hx u hu hne => ?_) (fun x hx hh => ?_) (fun x hx hh => ?_) 10 (by omega)
  · refine pD_nb hb w.1 hi hd hx (fun k => Or.inl ?_) k
    unfold plA pl1
    rw [if_neg (Ne.symm hne)]
    exact decide_eq_false (by omega)
  · refine (Sp_pD (u := Hm T V x) hb w.1 hi hd (fun k _ => ?_) (fun k _ v hv => ?_) k).2.2.2.2.2 i x hx rfl
    · unfold plA pl1; rw [if_pos rfl]
    · unfold plA pl1; rw [if_neg hv]; exact decide_eq_false (by omega)
  · exact pD_nb hb w.1 hi hd hx (fun k => Or.inr (by omega)) k
/-- a digit put in another's place -/
theorem repl {n J best w b : Nat} (hn : 0 < n) (hw : w < J) (hbest : best < n ^ J) (hb : b < n) : ∃ c, c < n ^ J ∧ c / n ^ (J - 1 - w) % n = b ∧ (∀ u, u < J → u ≠ w → c / n ^ (J - 1 - u) % n = best / n ^ (J - 1 - u) % n) ∧ (b < best / n ^ (J - 1 - w) % n → c < best) := by
  obtain ⟨P, hP⟩ : ∃ P, P = n ^ (J - 1 - w) := ⟨_, rfl⟩
  have hPp : 0 < P := by rw [hP]; exact Nat.pow_pos hn
  obtain ⟨a, ha⟩ : ∃ a, a = best / P % n := ⟨_, rfl⟩
  obtain ⟨q, hq⟩ : ∃ q, q = best / P / n := ⟨_, rfl⟩
  obtain ⟨r, hr⟩ : ∃ r, r = best % P := ⟨_, rfl⟩
  have hrP : r < P := by rw [hr]; exact Nat.mod_lt _ hPp
  have e1 : best = r + (a + q * n) * P := by
    have h1 : best / P = a + q * n := by rw [ha, hq, Nat.mul_comm]; exact (Nat.mod_add_div _ _).symm
    rw [← h1, hr, Nat.mul_comm]; exact (Nat.mod_add_div _ _).symm
  have han : a < n := by rw [ha]; exact Nat.mod_lt _ hn
  have hdiv : ∀ z, z < n → (r + (z + q * n) * P) / P = z + q * n := fun z _ => by
    rw [Nat.add_mul_div_right _ _ hPp, Nat.div_eq_of_lt hrP, Nat.zero_add]
  have hdig : ∀ z, z < n → (r + (z + q * n) * P) / P % n = z := fun z hz => by
    rw [hdiv z hz, Nat.add_mul_mod_self_right, Nat.mod_eq_of_lt hz]
  have hlo : ∀ z, z < n → ∀ u, u < w → (r + (z + q * n) * P) / n ^ (J - 1 - u) % n = q / n ^ (w - u - 1) % n := fun z hz u hu => by
    rw [show J - 1 - u = (J - 1 - w) + 1 + (w - u - 1) by omega, Nat.pow_add, Nat.pow_add, Nat.pow_one, ← hP, ← Nat.div_div_eq_div_mul, ← Nat.div_div_eq_div_mul, hdiv z hz, Nat.add_mul_div_right _ _ hn, Nat.div_eq_of_lt hz, Nat.zero_add]
  have hhi : ∀ z, ∀ u, w < u → u < J → (r + (z + q * n) * P) / n ^ (J - 1 - u) % n = r / n ^ (J - 1 - u) % n := fun z u hu huJ => by
    have hPu : P = n ^ (u - w - 1) * n * n ^ (J - 1 - u) := by
      rw [hP, show J - 1 - w = (u - w - 1) + 1 + (J - 1 - u) by omega, Nat.pow_add, Nat.pow_add, Nat.pow_one]
    rw [show (z + q * n) * P = ((z + q * n) * n ^ (u - w - 1) * n) * n ^ (J - 1 - u) by rw [hPu]; simp only [Nat.mul_assoc], Nat.add_mul_div_right _ _ (Nat.pow_pos hn), Nat.add_mul_mod_self_right]
  refine ⟨r + (b + q * n) * P, ?_, ?_, fun u hu hne => ?_, fun hlt => ?_⟩
  · have hJ : n ^ J = n ^ w * n * P := by
      rw [hP, show J = w + 1 + (J - 1 - w) by omega, Nat.pow_add, Nat.pow_add, Nat.pow_one, show w + 1 + (J - 1 - w) - 1 - w = J - 1 - w by omega]
    have hqw : q < n ^ w := by
      rw [hq, Nat.div_div_eq_div_mul]
      refine Nat.div_lt_of_lt_mul ?_
      rw [hJ] at hbest
      have : P * n * n ^ w = n ^ w * n * P := by rw [Nat.mul_comm P n, Nat.mul_assoc, Nat.mul_comm P, ← Nat.mul_assoc, Nat.mul_comm n]
      omega
    rw [hJ]
    have h1 : r + (b + q * n) * P < (b + q * n + 1) * P := by rw [Nat.succ_mul]; omega
    have h2 : b + q * n + 1 ≤ n ^ w * n := by
      have : (q + 1) * n ≤ n ^ w * n := Nat.mul_le_mul_right n hqw
      rw [Nat.succ_mul] at this
      omega
    exact Nat.lt_of_lt_of_le h1 (Nat.mul_le_mul_right P h2)
  · rw [← hP]; exact hdig b hb
  · rcases Nat.lt_or_gt_of_ne hne with h | h
    · rw [hlo b hb u h, e1, hlo a han u h]
    · rw [hhi b u h hu, e1, hhi a u h hu]
  · rw [← hP, e1, hdig a han] at hlt
    rw [e1]
    have : (b + q * n) * P < (a + q * n) * P := Nat.mul_lt_mul_of_pos_right (by omega) hPp
    omega
def plS (h : Nat → Nat → Int) (n J c : Nat) : Int := sumF (fun u => h u (c / n ^ (J - 1 - u) % n)) J
theorem plS_min {h : Nat → Nat → Int} {n J best : Nat} {g : Nat → Nat} (hn : 0 < n) (hbest : best < n ^ J) (h1 : ∀ c, c < n ^ J → plS h n J best ≤ plS h n J c) (h2 : ∀ c, c < best → plS h n J best < plS h n J c) (g1 : ∀ w, w < J → g w < n) (g2 : ∀ w m, w < J → m < n → h w (g w) ≤ h w m) (g3 : ∀ w m, w < J → m < g w → h w (g w) < h w m) : ∀ w, w < J → best / n ^ (J - 1 - w) % n = g w := by
  intro w hw
  obtain ⟨c, c1, c2, c3, c4⟩ := repl hn hw hbest (g1 w hw)
  have hS : plS h n J c = plS h n J best - h w (best / n ^ (J - 1 - w) % n) + h w (g w) := by
    unfold plS
    rw [sumF_upd (f := fun u => h u (c / n ^ (J - 1 - u) % n)) (g := fun u => h u (best / n ^ (J - 1 - u) % n)) J hw (fun q hq hne => by show h q _ = h q _; rw [c3 q hq hne])]
    show _ - _ + h w (c / n ^ (J - 1 - w) % n) = _
    rw [c2]
  have i1 := h1 c c1
  have i2 := g2 w (best / n ^ (J - 1 - w) % n) hw (Nat.mod_lt _ hn)
  by_cases q1 : g w < best / n ^ (J - 1 - w) % n
  · have := h2 c (c4 q1)
    omega
  · by_cases q2 : best / n ^ (J - 1 - w) % n < g w
    · have := g3 w _ hw q2
      omega
    · omega
theorem v_pw_0 {n : Nat}  (b : Int) (e : Int) {σ : Mm} {P : Int → Mm → Prop} (l1 : R 237 4 [some (vi b), some (vi e), some (vi 1), some (vi 0)] [] (shF n) 0 0 σ (Qi (shF n) P)) : Ci 237 [vi b, vi e] (shF n) σ P :=
  show R 237 0 [some (vi b), some (vi e), none, none] [] (shF n) 0 0 σ (Qi (shF n) P) from wpK_R 5 [4] ((l1))
theorem v_pw_L {n : Nat}  (b : Int) (e : Int) (p : Int) (k : Nat) {σ : Mm} {P : Int → Mm → Prop} (o1 : (k : Int) < e → rg (p * b)) (o2 : (k : Int) < e → ∀ x3 : Int, x3 = p * b → rg ((k : Int) + 1)) (l1 : e ≤ (k : Int) → P p σ) (l2 : (k : Int) < e → ∀ x3 : Int, x3 = p * b → R 237 4 [some (vi b), some (vi e), some (vi x3), some (vi ((k : Int) + 1))] [] (shF n) 0 0 σ (Qi (shF n) P)) : R 237 4 [some (vi b), some (vi e), some (vi p), some (vi (k : Int))] [] (shF n) 0 0 σ (Qi (shF n) P) :=
  wpK_R 10 [4] (And.intro (fun q1 => And.intro ret0 ⟨rfl, _, rfl, (l1 q1)⟩) (fun q1 => (have k2 := (o1 (Int.not_le.mp q1)); And.intro k2 ((have k4 := (o2 (Int.not_le.mp q1) _ rfl); And.intro k4 ((l2 (Int.not_le.mp q1) _ rfl)))))))
theorem pw_bd {b k : Nat} (hb : b ≤ 5) (hk : k ≤ 6) : b ^ k ≤ 15625 := Nat.le_trans (Nat.pow_le_pow_left hb k) (Nat.le_trans (Nat.pow_le_pow_right (by omega) hk) (by decide))
theorem c_pw {n : Nat} {b e : Int} {σ : Mm} {P : Int → Mm → Prop} (hb : 0 ≤ b ∧ b ≤ 5) (he : 0 ≤ e ∧ e ≤ 6) (hP : P ((b.toNat ^ e.toNat : Nat) : Int) σ) : Ci 237 [vi b, vi e] (shF n) σ P := by
  obtain ⟨b, rfl⟩ := Int.eq_ofNat_of_zero_le hb.1
  obtain ⟨e, rfl⟩ := Int.eq_ofNat_of_zero_le he.1
  rw [Int.toNat_natCast, Int.toNat_natCast] at hP
  refine v_pw_0 (b : Int) (e : Int) ?_
  refine loopUp (N := e) (I := fun k => R 237 4 [some (vi (b : Int)), some (vi (e : Int)), some (vi ((b ^ k : Nat) : Int)), some (vi (k : Int))] [] (shF n) 0 0 σ (Qi (shF n) P)) (fun k hk ih => ?_) 0 (by omega)
  have e1 : ((b ^ k : Nat) : Int) * (b : Int) = ((b ^ (k + 1) : Nat) : Int) := by rw [Nat.pow_succ]; exact (Int.natCast_mul _ _).symm
  have h1 := fun q : k < e => pw_bd (b := b) (k := k + 1) (by omega) (by omega)
  refine v_pw_L (b : Int) (e : Int) _ k (by intros; (try rw [e1]); first | (have q := h1 (by omega); unfold rg; omega) | (unfold rg; omega)) (by intros; (try rw [e1]); first | (have q := h1 (by omega); unfold rg; omega) | (unfold rg; omega)) ?_ ?_
  · intro hge
    rw [show e = k by omega] at hP; exact hP
  · intro hlt x3 hx3
    rw [hx3, e1]
    exact R_eq (ih (by omega)) rfl
theorem v_kal_0 {n : Nat}  (b : Nat) {σ : Mm} {P : Int → Mm → Prop} (l1 : R 219 4 [some (vr 85), some (vi (b : Int)), some (vi 0), some (vi 0)] [] (shF n) 0 0 σ (Qi (shF n) P)) : Ci 219 [vr 85, vi (b : Int)] (shF n) σ P :=
  show R 219 0 [some (vr 85), some (vi (b : Int)), none, none] [] (shF n) 0 0 σ (Qi (shF n) P) from wpK_R 5 [4] ((l1))
theorem v_kal_L {n : Nat}  (b : Nat) (c : Int) (k : Nat) {σ : Mm} {P : Int → Mm → Prop} (o1 : (k : Int) < (gi σ 85 14) → rg ((5 : Int) * (b : Int))) (o2 : (k : Int) < (gi σ 85 14) → rg (((5 : Int) * (b : Int)) + (k : Int))) (o3 : (k : Int) < (gi σ 85 14) → (0 ≤ (((5 : Int) * (b : Int)) + (k : Int)) ∧ (((5 : Int) * (b : Int)) + (k : Int)) < 10)) (o4 : (k : Int) < (gi σ 85 14) → ∀ x5 : Int, x5 = cnt (bi (gi σ 119 ((5 * b) + k))) 10 → rg (c + x5)) (o5 : (k : Int) < (gi σ 85 14) → ∀ x5 : Int, x5 = cnt (bi (gi σ 119 ((5 * b) + k))) 10 → ∀ x7 : Int, x7 = c + x5 → rg ((k : Int) + 1)) (l1 : (gi σ 85 14) ≤ (k : Int) → P c σ) (l2 : (k : Int) < (gi σ 85 14) → ∀ x5 : Int, x5 = cnt (bi (gi σ 119 ((5 * b) + k))) 10 → ∀ x7 : Int, x7 = c + x5 → R 219 4 [some (vr 85), some (vi (b : Int)), some (vi x7), some (vi ((k : Int) + 1))] [] (shF n) 0 0 σ (Qi (shF n) P)) : R 219 4 [some (vr 85), some (vi (b : Int)), some (vi c), some (vi (k : Int))] [] (shF n) 0 0 σ (Qi (shF n) P) :=
  wpK_R 19 [4] (And.intro (fun q1 => And.intro ret0 ⟨rfl, _, rfl, (l1 q1)⟩) (fun q1 => (have k2 := (o1 (Int.not_le.mp q1)); And.intro k2 ((have k3 := (o2 (Int.not_le.mp q1)); And.intro k3 ((have k4 := (o3 (Int.not_le.mp q1)); And.intro k4 ((c_mny   ((have k6 := (o4 (Int.not_le.mp q1) _ rfl); And.intro k6 ((have k8 := (o5 (Int.not_le.mp q1) _ rfl _ rfl); And.intro k8 ((l2 (Int.not_le.mp q1) _ rfl _ rfl)))))))))))))))
theorem c_kal {n b : Nat} {σ : Mm} {P : Int → Mm → Prop} (hc : 0 ≤ gi σ 85 14 ∧ gi σ 85 14 ≤ 5) (hb : b < 2) (hP : P (sumF (fun q => cnt (bi (gi σ 119 (5 * b + q))) 10) (gi σ 85 14).toNat) σ) : Ci 219 [vr 85, vi (b : Int)] (shF n) σ P := by
  refine v_kal_0 b ?_
  refine loopUp (N := (gi σ 85 14).toNat) (I := fun k => R 219 4 [some (vr 85), some (vi (b : Int)), some (vi (sumF (fun q => cnt (bi (gi σ 119 (5 * b + q))) 10) k)), some (vi (k : Int))] [] (shF n) 0 0 σ (Qi (shF n) P)) (fun k hk ih => ?_) 0 (by omega)
  have hbd := sumF_bd (f := fun q => cnt (bi (gi σ 119 (5 * b + q))) 10) (B := 10) (k := k) (fun q _ => cnt_in _ _)
  have hcn := cnt_in (bi (gi σ 119 (5 * b + k))) 10
  refine v_kal_L b _ k (by intros; subst_vars; first | omega | (unfold rg; omega)) (by intros; subst_vars; first | omega | (unfold rg; omega)) (by intros; subst_vars; first | omega | (unfold rg; omega)) (by intros; subst_vars; first | omega | (unfold rg; omega)) (by intros; subst_vars; first | omega | (unfold rg; omega)) ?_ ?_
  · intro hge
    rw [show (gi σ 85 14).toNat = k by omega] at hP; exact hP
  · intro hlt x5 hx5 x7 hx7
    refine R_eq (ih (by omega)) ?_
    rw [hx7, hx5]
    rfl
theorem v_kia_40_0 {n : Nat}   {σ : Mm} {P : Int → Mm → Prop} (l1 : R 95 4 [some (vr 40), some (vi 0), some (vi 0)] [] (shF n) 0 0 σ (Qi (shF n) P)) : Ci 95 [vr 40] (shF n) σ P :=
  show R 95 0 [some (vr 40), none, none] [] (shF n) 0 0 σ (Qi (shF n) P) from wpK_R 5 [4] ((l1))
theorem v_kia_40_L {n : Nat}  (c : Int) (k : Nat) {σ : Mm} {P : Int → Mm → Prop} (o1 : (k : Int) < (5 : Int) → (0 ≤ (k : Int) ∧ (k : Int) < 5)) (o2 : (k : Int) < (5 : Int) → (0 ≤ (gi σ 48 k) ∧ (gi σ 48 k) < 1024)) (o3 : (k : Int) < (5 : Int) → ∀ x3 : Int, x3 = cnt (bi (gi σ 48 k)) 10 → rg (c + x3)) (o4 : (k : Int) < (5 : Int) → ∀ x3 : Int, x3 = cnt (bi (gi σ 48 k)) 10 → ∀ x5 : Int, x5 = c + x3 → rg ((k : Int) + 1)) (l1 : (5 : Int) ≤ (k : Int) → P c σ) (l2 : (k : Int) < (5 : Int) → ∀ x3 : Int, x3 = cnt (bi (gi σ 48 k)) 10 → ∀ x5 : Int, x5 = c + x3 → R 95 4 [some (vr 40), some (vi x5), some (vi ((k : Int) + 1))] [] (shF n) 0 0 σ (Qi (shF n) P)) : R 95 4 [some (vr 40), some (vi c), some (vi (k : Int))] [] (shF n) 0 0 σ (Qi (shF n) P) :=
  wpK_R 14 [4] (And.intro (fun q1 => And.intro ret0 ⟨rfl, _, rfl, (l1 q1)⟩) (fun q1 => (have k2 := (o1 (Int.not_le.mp q1)); And.intro k2 ((c_bc  (o2 (Int.not_le.mp q1)) ((have k4 := (o3 (Int.not_le.mp q1) _ rfl); And.intro k4 ((have k6 := (o4 (Int.not_le.mp q1) _ rfl _ rfl); And.intro k6 ((l2 (Int.not_le.mp q1) _ rfl _ rfl)))))))))))
theorem c_kia_40 {n : Nat} {σ : Mm} {P : Int → Mm → Prop} (hc : ∀ i, i < 5 → 0 ≤ gi σ 48 i ∧ gi σ 48 i < 1024) (hP : P (sumF (fun q => cnt (bi (gi σ 48 q)) 10) 5) σ) : Ci 95 [vr 40] (shF n) σ P := by
  refine v_kia_40_0 ?_
  refine loopUp (N := 5) (I := fun k => R 95 4 [some (vr 40), some (vi (sumF (fun q => cnt (bi (gi σ 48 q)) 10) k)), some (vi (k : Int))] [] (shF n) 0 0 σ (Qi (shF n) P)) (fun k hk ih => ?_) 0 (by omega)
  have hbd := sumF_bd (f := fun q => cnt (bi (gi σ 48 q)) 10) (B := 10) (k := k) (fun q _ => cnt_in _ _)
  have hcn := cnt_in (bi (gi σ 48 k)) 10
  refine v_kia_40_L _ k (by intros; subst_vars; first | omega | exact hc k (by omega) | (unfold rg; omega)) (by intros; subst_vars; first | omega | exact hc k (by omega) | (unfold rg; omega)) (by intros; subst_vars; first | omega | exact hc k (by omega) | (unfold rg; omega)) (by intros; subst_vars; first | omega | exact hc k (by omega) | (unfold rg; omega)) ?_ ?_
  · intro hge
    rw [show k = 5 by omega]; exact hP
  · intro hlt x5 hx5 x7 hx7
    refine R_eq (ih (by omega)) ?_
    rw [hx7, hx5]
    rfl
theorem v_kia_49_0 {n : Nat}   {σ : Mm} {P : Int → Mm → Prop} (l1 : R 95 4 [some (vr 49), some (vi 0), some (vi 0)] [] (shF n) 0 0 σ (Qi (shF n) P)) : Ci 95 [vr 49] (shF n) σ P :=
  show R 95 0 [some (vr 49), none, none] [] (shF n) 0 0 σ (Qi (shF n) P) from wpK_R 5 [4] ((l1))
theorem v_kia_49_L {n : Nat}  (c : Int) (k : Nat) {σ : Mm} {P : Int → Mm → Prop} (o1 : (k : Int) < (5 : Int) → (0 ≤ (k : Int) ∧ (k : Int) < 5)) (o2 : (k : Int) < (5 : Int) → (0 ≤ (gi σ 57 k) ∧ (gi σ 57 k) < 1024)) (o3 : (k : Int) < (5 : Int) → ∀ x3 : Int, x3 = cnt (bi (gi σ 57 k)) 10 → rg (c + x3)) (o4 : (k : Int) < (5 : Int) → ∀ x3 : Int, x3 = cnt (bi (gi σ 57 k)) 10 → ∀ x5 : Int, x5 = c + x3 → rg ((k : Int) + 1)) (l1 : (5 : Int) ≤ (k : Int) → P c σ) (l2 : (k : Int) < (5 : Int) → ∀ x3 : Int, x3 = cnt (bi (gi σ 57 k)) 10 → ∀ x5 : Int, x5 = c + x3 → R 95 4 [some (vr 49), some (vi x5), some (vi ((k : Int) + 1))] [] (shF n) 0 0 σ (Qi (shF n) P)) : R 95 4 [some (vr 49), some (vi c), some (vi (k : Int))] [] (shF n) 0 0 σ (Qi (shF n) P) :=
  wpK_R 14 [4] (And.intro (fun q1 => And.intro ret0 ⟨rfl, _, rfl, (l1 q1)⟩) (fun q1 => (have k2 := (o1 (Int.not_le.mp q1)); And.intro k2 ((c_bc  (o2 (Int.not_le.mp q1)) ((have k4 := (o3 (Int.not_le.mp q1) _ rfl); And.intro k4 ((have k6 := (o4 (Int.not_le.mp q1) _ rfl _ rfl); And.intro k6 ((l2 (Int.not_le.mp q1) _ rfl _ rfl)))))))))))
theorem c_kia_49 {n : Nat} {σ : Mm} {P : Int → Mm → Prop} (hc : ∀ i, i < 5 → 0 ≤ gi σ 57 i ∧ gi σ 57 i < 1024) (hP : P (sumF (fun q => cnt (bi (gi σ 57 q)) 10) 5) σ) : Ci 95 [vr 49] (shF n) σ P := by
  refine v_kia_49_0 ?_
  refine loopUp (N := 5) (I := fun k => R 95 4 [some (vr 49), some (vi (sumF (fun q => cnt (bi (gi σ 57 q)) 10) k)), some (vi (k : Int))] [] (shF n) 0 0 σ (Qi (shF n) P)) (fun k hk ih => ?_) 0 (by omega)
  have hbd := sumF_bd (f := fun q => cnt (bi (gi σ 57 q)) 10) (B := 10) (k := k) (fun q _ => cnt_in _ _)
  have hcn := cnt_in (bi (gi σ 57 k)) 10
  refine v_kia_49_L _ k (by intros; subst_vars; first | omega | exact hc k (by omega) | (unfold rg; omega)) (by intros; subst_vars; first | omega | exact hc k (by omega) | (unfold rg; omega)) (by intros; subst_vars; first | omega | exact hc k (by omega) | (unfold rg; omega)) (by intros; subst_vars; first | omega | exact hc k (by omega) | (unfold rg; omega)) ?_ ?_
  · intro hge
    rw [show k = 5 by omega]; exact hP
  · intro hlt x5 hx5 x7 hx7
    refine R_eq (ih (by omega)) ?_
    rw [hx7, hx5]
    rfl
/-- the reference's trial by a plan -/
def PlQ (T V : Nat → Nat → Int) (σ : Mm) (m : Int) : Prop := (0 ≤ m ∧ m ≤ 200) ∧ BkOK T ∧ RB T σ ∧ RW T V σ 1 ∧ WI T V ∧ UH T V ∧ gi σ 85 68 = -1 ∧ V 0 0 < 29000 ∧ gi σ 85 72 = 0 ∧ gi σ 85 71 = 1 ∧ gi σ 85 65 = -1 ∧ gi σ 85 67 = -1
def PM (T V : Nat → Nat → Int) (m : Int) (σ τ : Mm) : Prop := RG 1 σ τ ∧ RW T (pD T V (plA (d0 V) (gi σ 123)) m.toNat) τ 1
theorem v_goP_0 {n : Nat}  (m : Int) {σ : Mm} {P : Mm → Prop} (l1 : R 216 2 [some (vr 85), some (vi m), some (vi 0)] [] (shF n) 0 0 σ (Qv (shF n) P)) : Cv 216 [vr 85, vi m] (shF n) σ P :=
  show R 216 0 [some (vr 85), some (vi m), none] [] (shF n) 0 0 σ (Qv (shF n) P) from wpK_R 3 [2] ((l1))
theorem v_goP_2 {n : Nat} (T : Nat → Nat → Int) (V : Nat → Nat → Int) (m : Int) (k : Nat) {σ : Mm} {P : Mm → Prop} (o1 : (k : Int) < m → GQ T V σ) (o2 : (k : Int) < m → ∀ s3 : Mm, GO T V σ s3 → rg ((k : Int) + 1)) (l1 : m ≤ (k : Int) → P σ) (l2 : (k : Int) < m → ∀ s3 : Mm, GO T V σ s3 → R 216 2 [some (vr 85), some (vi m), some (vi ((k : Int) + 1))] [] (shF n) 0 0 s3 (Qv (shF n) P)) : R 216 2 [some (vr 85), some (vi m), some (vi (k : Int))] [] (shF n) 0 0 σ (Qv (shF n) P) :=
  wpK_R 9 [2] (And.intro (fun q1 => And.intro ret0 ⟨rfl, rfl, (l1 q1)⟩) (fun q1 => (c_goD (T := T) (V := V) (o1 (Int.not_le.mp q1)) (fun s3 h4 => (have k5 := (o2 (Int.not_le.mp q1) s3 h4); And.intro k5 ((l2 (Int.not_le.mp q1) s3 h4)))))))
theorem c_goP {n : Nat} {m : Int} {T V : Nat → Nat → Int} {σ : Mm} {P : Mm → Prop} (h : PlQ T V σ m) (hP : ∀ σ', PM T V m σ σ' → P σ') : Cv 216 [vr 85, vi m] (shF n) σ P := by
  obtain ⟨p1, p2, p3, p4, p5, p6, p7, p8, p9, p10, p11, p12⟩ := h
  have h0 : 0 ≤ V 0 0 := p5.1.2.2.2.2
  have hd0 := d0_in V
  refine v_goP_0 m ?_
  refine loopUp (N := m.toNat) (I := fun k => ∀ τ : Mm, RG 1 σ τ → RW T (pD T V (plA (d0 V) (gi σ 123)) k) τ 1 → WI T (pD T V (plA (d0 V) (gi σ 123)) k) → UH T (pD T V (plA (d0 V) (gi σ 123)) k) → gi τ 85 72 = (((k + 6 - d0 V) / 7 : Nat) : Int) → R 216 2 [some (vr 85), some (vi m), some (vi (k : Int))] [] (shF n) 0 0 τ (Qv (shF n) P)) (fun k hk ih => ?_) 0 (by omega) σ (RG.rf 1 σ) p4 p5 p6 (by omega)
  intro τ f1 f2 f3 f4 f5
  obtain ⟨kdm, kbt, kdf, k65, k71, k70⟩ := RG_set f1 T
  have k68 := f1.1 85 68 (by unfold hf; omega) (by omega)
  have k67 := f1.1 85 67 (by unfold hf; omega) (by omega)
  have hD : dO T (pD T V (plA (d0 V) (gi σ 123)) k) τ = pD T V (plA (d0 V) (gi σ 123)) (k + 1) := by
    unfold dO
    have e1 : dmR τ = -1 := by rw [kdm]; unfold dmR; rw [if_neg (by omega)]; exact p12
    have e2 : btR T τ = T 0 5 := by rw [kbt]; unfold btR; rw [if_neg (by omega)]
    have e3 : dfR τ = -1 := by rw [kdf]; unfold dfR; rw [if_neg (by omega)]
    have e5 : aiR τ (pD T V (plA (d0 V) (gi σ 123)) k) = plA (d0 V) (gi σ 123) k := funext fun u => by
      unfold aiR plA
      rw [if_neg (by omega), f1.1 123 u (by unfold hf; omega) (by omega), f5]
    rw [e1, e2, e3, e5, decide_eq_false (show ¬ gi τ 85 65 = 3 by omega)]
    unfold moD
    rw [if_pos rfl]
    rfl
  have hday : pD T V (plA (d0 V) (gi σ 123)) k 0 0 = V 0 0 + (k : Int) := pD_day k
  have hq : (k : Int) < m → GQ T (pD T V (plA (d0 V) (gi σ 123)) k) τ := fun q => ⟨p2, f1.rb p3, f2, f3, f4, ⟨by omega, by omega⟩, by omega, by omega⟩
  refine v_goP_2 T (pD T V (plA (d0 V) (gi σ 123)) k) m k (by intros; first | omega | exact hq (by omega) | (unfold rg; omega)) (by intros; first | omega | exact hq (by omega) | (unfold rg; omega)) ?_ ?_
  · intro hge
    exact hP τ ⟨f1, by rw [show m.toNat = k by omega]; exact f2⟩
  · intro hlt s go
    obtain ⟨g1, g2, g3, g4, g5⟩ := go
    rw [hD] at g3 g4 g5
    refine R_eq (ih (by omega) s (f1.tr g1) g3 g4 g5 ?_) rfl
    rw [g2, f5, hday]
    unfold d0
    split <;> omega
