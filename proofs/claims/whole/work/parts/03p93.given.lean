/-! GIVEN: cases dealt out so that judges are nearest, each at most two -/
def dt (l j : Nat) : Nat := l / 3 ^ j % 3
def dl (l J : Nat) : Nat := (sumF (fun j => (dt l j : Int)) J).toNat
theorem dt_add : ∀ l : Nat, l < 243 → ∀ j : Nat, j < 5 → dt l j = 2 ∨ (∀ q : Nat, q < 5 → dt (l + 3 ^ j) q = if q = j then dt l j + 1 else dt l q) := by decide +kernel
theorem dt_lt : ∀ J : Nat, J < 6 → ∀ l : Nat, l < 3 ^ J → ∀ j : Nat, j < J → dt l j = 2 ∨ l + 3 ^ j < 3 ^ J := by decide +kernel
theorem dt_2 (l j : Nat) : dt l j ≤ 2 := by unfold dt; omega
theorem dl_c {l J : Nat} : ((dl l J : Nat) : Int) = sumF (fun j => (dt l j : Int)) J := by
  unfold dl
  have := sumF_bd (f := fun j => (dt l j : Int)) (B := 2) (k := J) (fun q _ => by have := dt_2 l q; omega)
  omega
theorem dl_add {l J j : Nat} (hJ : J < 6) (hl : l < 243) (hj : j < J) (hr : dt l j < 2) : dl (l + 3 ^ j) J = dl l J + 1 := by
  have h := (dt_add l hl j (by omega)).resolve_left (by omega)
  have a := dl_c (l := l) (J := J)
  have b := dl_c (l := l + 3 ^ j) (J := J)
  rw [sumF_upd (f := fun q => (dt (l + 3 ^ j) q : Int)) (g := fun q => (dt l q : Int)) (w := j) J hj (fun q hq hne => by show ((dt (l + 3 ^ j) q : Nat) : Int) = _; rw [h q (by omega), if_neg hne])] at b
  have e : ((dt (l + 3 ^ j) j : Nat) : Int) = (dt l j : Int) + 1 := by rw [h j (by omega), if_pos rfl]; rfl
  have b' : ((dl (l + 3 ^ j) J : Nat) : Int) = sumF (fun q => (dt l q : Int)) J - (dt l j : Int) + (dt (l + 3 ^ j) j : Int) := b
  omega
theorem dl_room {l J : Nat} (h : dl l J < 2 * J) : ∃ j, j < J ∧ dt l j < 2 := by
  refine Classical.byContradiction fun q => ?_
  have q' : ∀ j, j < J → dt l j = 2 := fun j hj => by
    have := dt_2 l j
    refine Classical.byContradiction fun z => q ⟨j, hj, by omega⟩
  have a := dl_c (l := l) (J := J)
  have b : ∀ k, k ≤ J → sumF (fun j => (dt l j : Int)) k = 2 * (k : Int) := by
    intro k
    induction k with
    | zero => intro _; rfl
    | succ k ih => intro hk; simp only [sumF]; rw [ih (by omega), q' k (by omega)]; omega
  rw [b J (Nat.le_refl _)] at a
  omega
def mx : Int := 2147483647
/-- the least f j of those with room -/
def minR (l : Nat) (f : Nat → Int) : Nat → Int
  | 0 => mx
  | j + 1 => if dt l j < 2 then (if f j < minR l f j then f j else minR l f j) else minR l f j
theorem minR_le {l : Nat} {f : Nat → Int} : ∀ (J j : Nat), j < J → dt l j < 2 → minR l f J ≤ f j := by
  intro J
  induction J with
  | zero => intro j h; omega
  | succ J ih =>
    intro j hj hr
    simp only [minR]
    by_cases e : j = J
    · subst e; rw [if_pos hr]; split <;> omega
    · have := ih j (by omega) hr
      split
      · split <;> omega
      · exact this
theorem minR_at {l : Nat} {f : Nat → Int} : ∀ J : Nat, minR l f J = mx ∨ ∃ j, j < J ∧ dt l j < 2 ∧ f j = minR l f J := by
  intro J
  induction J with
  | zero => exact Or.inl rfl
  | succ J ih =>
    simp only [minR]
    by_cases r : dt l J < 2
    · rw [if_pos r]
      by_cases q : f J < minR l f J
      · rw [if_pos q]; exact Or.inr ⟨J, by omega, r, rfl⟩
      · rw [if_neg q]
        rcases ih with ih | ⟨j, hj, hr, he⟩
        · exact Or.inl ih
        · exact Or.inr ⟨j, by omega, hr, he⟩
    · rw [if_neg r]
      rcases ih with ih | ⟨j, hj, hr, he⟩
      · exact Or.inl ih
      · exact Or.inr ⟨j, by omega, hr, he⟩
/-- the least sum of the last r cases, with load l; w k j: how far judge j is from case k -/
def LsS (w : Nat → Nat → Int) (n J : Nat) : Nat → Nat → Int
  | 0, _ => 0
  | r + 1, l => minR l (fun j => w (n - 1 - r) j + LsS w n J r (l + 3 ^ j)) J
theorem LsS_in {w : Nat → Nat → Int} {n J : Nat} (hJ : J < 6) (hw : ∀ k j, j < J → 0 ≤ w k j ∧ w k j ≤ 99) : ∀ (r l : Nat), l < 3 ^ J → dl l J + r ≤ 2 * J → 0 ≤ LsS w n J r l ∧ LsS w n J r l ≤ 99 * (r : Int) := by
  intro r
  induction r with
  | zero => intro l _ _; exact ⟨Int.le_refl _, Int.le_refl _⟩
  | succ r ih =>
    intro l hl hd
    have h243 : 3 ^ J ≤ 3 ^ 5 := Nat.pow_le_pow_right (by omega) (by omega)
    have hn : ∀ j, j < J → dt l j < 2 → 0 ≤ LsS w n J r (l + 3 ^ j) ∧ LsS w n J r (l + 3 ^ j) ≤ 99 * (r : Int) := fun j hj hr => by
      refine ih (l + 3 ^ j) ((dt_lt J hJ l hl j hj).resolve_left (by omega)) ?_
      rw [dl_add hJ (by omega) hj hr]; omega
    obtain ⟨j, hj, hr⟩ := dl_room (l := l) (J := J) (by omega)
    have a := minR_le (l := l) (f := fun j => w (n - 1 - r) j + LsS w n J r (l + 3 ^ j)) J j hj hr
    have b := hn j hj hr
    have c := hw (n - 1 - r) j hj
    have a' : LsS w n J (r + 1) l ≤ w (n - 1 - r) j + LsS w n J r (l + 3 ^ j) := a
    have hr2 : J ≤ 5 := by omega
    refine ⟨?_, by omega⟩
    rcases minR_at (l := l) (f := fun j => w (n - 1 - r) j + LsS w n J r (l + 3 ^ j)) J with e | ⟨j', hj', hr', he⟩
    · have e' : LsS w n J (r + 1) l = mx := e
      rw [e']; unfold mx; omega
    · have e' : LsS w n J (r + 1) l = w (n - 1 - r) j' + LsS w n J r (l + 3 ^ j') := he.symm
      have b' := hn j' hj' hr'
      have c' := hw (n - 1 - r) j' hj'
      omega
/-- the first judge with room by whom the least is met -/
def fj (p : Nat → Bool) : Nat → Nat
  | 0 => 0
  | j + 1 => if anyF p j then fj p j else j
theorem fj_spec {p : Nat → Bool} : ∀ J : Nat, anyF p J = true → fj p J < J ∧ p (fj p J) = true ∧ ∀ j, j < fj p J → p j = false := by
  intro J
  induction J with
  | zero => intro h; exact Bool.noConfusion h
  | succ J ih =>
    intro h
    simp only [fj]
    by_cases q : anyF p J = true
    · rw [if_pos q]
      obtain ⟨a, b, c⟩ := ih q
      exact ⟨by omega, b, c⟩
    · rw [if_neg q]
      rw [anyF_s, Bool.or_eq_true] at h
      refine ⟨by omega, h.resolve_left q, fun j hj => ?_⟩
      cases z : p j with
      | false => rfl
      | true => exact absurd (anyF_iff.mpr ⟨j, hj, z⟩) q
def gp (w : Nat → Nat → Int) (n J r l j : Nat) : Bool := decide (dt l j < 2) && decide (w (n - 1 - r) j + LsS w n J r (l + 3 ^ j) = LsS w n J (r + 1) l)
def gj (w : Nat → Nat → Int) (n J r l : Nat) : Nat := fj (gp w n J r l) J
theorem gj_spec {w : Nat → Nat → Int} {n J r l : Nat} (hJ : J < 6) (hw : ∀ k j, j < J → 0 ≤ w k j ∧ w k j ≤ 99) (hl : l < 3 ^ J) (hd : dl l J + (r + 1) ≤ 2 * J) : gj w n J r l < J ∧ dt l (gj w n J r l) < 2 ∧ w (n - 1 - r) (gj w n J r l) + LsS w n J r (l + 3 ^ gj w n J r l) = LsS w n J (r + 1) l ∧ (∀ j, j < gj w n J r l → gp w n J r l j = false) ∧ anyF (gp w n J r l) J = true := by
  have hin := LsS_in (n := n) hJ hw (r + 1) l hl hd
  have hex : anyF (gp w n J r l) J = true := by
    rcases minR_at (l := l) (f := fun j => w (n - 1 - r) j + LsS w n J r (l + 3 ^ j)) J with e | ⟨j, hj, hr, he⟩
    · have e' : LsS w n J (r + 1) l = mx := e
      rw [e'] at hin
      unfold mx at hin
      have : J ≤ 5 := by omega
      omega
    · refine anyF_iff.mpr ⟨j, hj, ?_⟩
      unfold gp
      rw [decide_eq_true hr, Bool.true_and]
      exact decide_eq_true he
  obtain ⟨a, b, c⟩ := fj_spec J hex
  have b' := b
  unfold gp at b'
  rw [Bool.and_eq_true] at b'
  exact ⟨a, of_decide_eq_true b'.1, of_decide_eq_true b'.2, c, hex⟩
/-- a code's digits, the most significant first: fits it, its sum -/
def vd (J : Nat) : Nat → Nat → Nat → Bool
  | 0, _, _ => true
  | r + 1, l, c => decide (dt l (c / J ^ r) < 2) && vd J r (l + 3 ^ (c / J ^ r)) (c % J ^ r)
def smC (w : Nat → Nat → Int) (n J : Nat) : Nat → Nat → Int
  | 0, _ => 0
  | r + 1, c => w (n - 1 - r) (c / J ^ r) + smC w n J r (c % J ^ r)
def gc (w : Nat → Nat → Int) (n J : Nat) : Nat → Nat → Nat
  | 0, _ => 0
  | r + 1, l => gj w n J r l * J ^ r + gc w n J r (l + 3 ^ gj w n J r l)
theorem gc_min {w : Nat → Nat → Int} {n J : Nat} (hJ : J < 6) (hw : ∀ k j, j < J → 0 ≤ w k j ∧ w k j ≤ 99) : ∀ (r l : Nat), l < 3 ^ J → dl l J + r ≤ 2 * J → (∀ c, c < J ^ r → vd J r l c = true → LsS w n J r l ≤ smC w n J r c) ∧ gc w n J r l < J ^ r ∧ vd J r l (gc w n J r l) = true ∧ smC w n J r (gc w n J r l) = LsS w n J r l ∧ (∀ c, c < gc w n J r l → vd J r l c = true → LsS w n J r l < smC w n J r c) := by
  intro r
  induction r with
  | zero => intro l _ _; exact ⟨fun c _ _ => Int.le_refl _, by simp [gc], rfl, rfl, fun c hc => by simp [gc] at hc⟩
  | succ r ih =>
    intro l hl hd
    have h243 : 3 ^ J ≤ 3 ^ 5 := Nat.pow_le_pow_right (by omega) (by omega)
    have hJ0 : 0 < J := by omega
    have hP : 0 < J ^ r := Nat.pow_pos hJ0
    have hnx : ∀ j, j < J → dt l j < 2 → l + 3 ^ j < 3 ^ J ∧ dl (l + 3 ^ j) J + r ≤ 2 * J := fun j hj hr => ⟨(dt_lt J hJ l hl j hj).resolve_left (by omega), by rw [dl_add hJ (by omega) hj hr]; omega⟩
    have hbr : ∀ c, c < J ^ (r + 1) → vd J (r + 1) l c = true → c / J ^ r < J ∧ dt l (c / J ^ r) < 2 ∧ vd J r (l + 3 ^ (c / J ^ r)) (c % J ^ r) = true := fun c hc hv => by
      simp only [vd, Bool.and_eq_true] at hv
      exact ⟨Nat.div_lt_of_lt_mul (by rw [Nat.pow_succ] at hc; exact hc), of_decide_eq_true hv.1, hv.2⟩
    have hlow : ∀ c, c < J ^ (r + 1) → vd J (r + 1) l c = true → w (n - 1 - r) (c / J ^ r) + LsS w n J r (l + 3 ^ (c / J ^ r)) ≤ smC w n J (r + 1) c ∧ LsS w n J (r + 1) l ≤ w (n - 1 - r) (c / J ^ r) + LsS w n J r (l + 3 ^ (c / J ^ r)) := fun c hc hv => by
      obtain ⟨a1, a2, a3⟩ := hbr c hc hv
      obtain ⟨b1, b2⟩ := hnx _ a1 a2
      have := (ih _ b1 b2).1 (c % J ^ r) (Nat.mod_lt _ hP) a3
      have m := minR_le (l := l) (f := fun j => w (n - 1 - r) j + LsS w n J r (l + 3 ^ j)) J (c / J ^ r) a1 a2
      have m' : LsS w n J (r + 1) l ≤ w (n - 1 - r) (c / J ^ r) + LsS w n J r (l + 3 ^ (c / J ^ r)) := m
      simp only [smC]
      exact ⟨by omega, m'⟩
    obtain ⟨g1, g2, g3, g4, -⟩ := gj_spec (n := n) hJ hw hl hd
    obtain ⟨b1, b2⟩ := hnx _ g1 g2
    obtain ⟨i1, i2, i3, i4, i5⟩ := ih _ b1 b2
    have hdv : gc w n J (r + 1) l / J ^ r = gj w n J r l := by
      simp only [gc]
      rw [Nat.add_comm, Nat.add_mul_div_right _ _ hP, Nat.div_eq_of_lt i2, Nat.zero_add]
    have hmd : gc w n J (r + 1) l % J ^ r = gc w n J r (l + 3 ^ gj w n J r l) := by
      simp only [gc]
      rw [Nat.add_comm, Nat.add_mul_mod_self_right, Nat.mod_eq_of_lt i2]
    refine ⟨fun c hc hv => by have := hlow c hc hv; omega, ?_, ?_, ?_, fun c hc hv => ?_⟩
    · simp only [gc]
      rw [Nat.pow_succ]
      have : (gj w n J r l + 1) * J ^ r ≤ J * J ^ r := Nat.mul_le_mul_right _ g1
      rw [Nat.succ_mul] at this
      rw [Nat.mul_comm (J ^ r) J]
      omega
    · simp only [vd]
      rw [hdv, hmd, decide_eq_true g2, i3]; rfl
    · simp only [smC]
      rw [hdv, hmd, i4]; exact g3
    · have hgl : gc w n J (r + 1) l < J ^ (r + 1) := by
        simp only [gc]
        rw [Nat.pow_succ]
        have : (gj w n J r l + 1) * J ^ r ≤ J * J ^ r := Nat.mul_le_mul_right _ g1
        rw [Nat.succ_mul] at this
        rw [Nat.mul_comm (J ^ r) J]
        omega
      have hcl : c < J ^ (r + 1) := by omega
      obtain ⟨a1, a2, a3⟩ := hbr c hcl hv
      have hl2 := hlow c hcl hv
      have hdm := Nat.div_add_mod c (J ^ r)
      have hdg := Nat.div_add_mod (gc w n J (r + 1) l) (J ^ r)
      rw [hdv, hmd] at hdg
      by_cases e : c / J ^ r = gj w n J r l
      · rw [e] at a3 hdm
        have hc2 : c % J ^ r < gc w n J r (l + 3 ^ gj w n J r l) := by omega
        have := i5 (c % J ^ r) hc2 a3
        simp only [smC]
        rw [e]
        omega
      · have hlt : c / J ^ r < gj w n J r l := by
          refine Classical.byContradiction fun z => ?_
          have h1 : gj w n J r l + 1 ≤ c / J ^ r := by omega
          have h2 : J ^ r * (gj w n J r l + 1) ≤ J ^ r * (c / J ^ r) := Nat.mul_le_mul_left _ h1
          rw [Nat.mul_succ] at h2
          have h3 := Nat.mul_div_le c (J ^ r)
          omega
        have hg := g4 _ hlt
        unfold gp at hg
        rw [decide_eq_true a2, Bool.true_and] at hg
        have hne := of_decide_eq_false hg
        omega
/-- load after t greedy steps -/
def glL (w : Nat → Nat → Int) (n J : Nat) : Nat → Nat
  | 0 => 0
  | t + 1 => glL w n J t + 3 ^ gj w n J (n - 1 - t) (glL w n J t)
theorem dl_0 : ∀ J : Nat, dl 0 J = 0 := fun J => by
  have := dl_c (l := 0) (J := J)
  rw [sumF_zero J fun q _ => by show ((dt 0 q : Nat) : Int) = 0; unfold dt; simp] at this
  omega
theorem glL_ok {w : Nat → Nat → Int} {n J : Nat} (hJ : J < 6) (hw : ∀ k j, j < J → 0 ≤ w k j ∧ w k j ≤ 99) (hn : n ≤ 2 * J) : ∀ t, t ≤ n → glL w n J t < 3 ^ J ∧ dl (glL w n J t) J = t := by
  intro t
  induction t with
  | zero => intro _; exact ⟨Nat.pow_pos (by omega), dl_0 J⟩
  | succ t ih =>
    intro ht
    obtain ⟨a, b⟩ := ih (by omega)
    have h243 : 3 ^ J ≤ 3 ^ 5 := Nat.pow_le_pow_right (by omega) (by omega)
    obtain ⟨g1, g2, -⟩ := gj_spec (n := n) (r := n - 1 - t) hJ hw a (by omega)
    simp only [glL]
    exact ⟨(dt_lt J hJ _ a _ g1).resolve_left (by omega), by rw [dl_add hJ (by omega) g1 g2, b]⟩
theorem gc_dig {w : Nat → Nat → Int} {n J : Nat} (hJ : J < 6) (hw : ∀ k j, j < J → 0 ≤ w k j ∧ w k j ≤ 99) (hn : n ≤ 2 * J) : ∀ t, t ≤ n → gc w n J n 0 % J ^ (n - t) = gc w n J (n - t) (glL w n J t) := by
  intro t
  induction t with
  | zero => intro _; exact Nat.mod_eq_of_lt (gc_min hJ hw n 0 (Nat.pow_pos (by omega)) (by rw [dl_0]; omega)).2.1
  | succ t ih =>
    intro ht
    have ih := ih (by omega)
    obtain ⟨a, b⟩ := glL_ok (n := n) hJ hw hn t (by omega)
    have hs : n - t = (n - (t + 1)) + 1 := by omega
    rw [hs] at ih
    have e : gc w n J n 0 % J ^ (n - (t + 1)) = gc w n J n 0 % J ^ (n - (t + 1) + 1) % J ^ (n - (t + 1)) := by
      rw [Nat.mod_mod_of_dvd]
      exact Nat.pow_dvd_pow J (by omega)
    have g := gj_spec (n := n) (r := n - (t + 1)) hJ hw a (by omega)
    have h243 : 3 ^ J ≤ 3 ^ 5 := Nat.pow_le_pow_right (by omega) (by omega)
    have hlt := (gc_min hJ hw (n := n) (n - (t + 1)) (glL w n J t + 3 ^ gj w n J (n - (t + 1)) (glL w n J t)) ((dt_lt J hJ _ a _ g.1).resolve_left (by omega)) (by rw [dl_add hJ (by omega) g.1 g.2.1, b]; omega)).2.1
    rw [e, ih]
    simp only [gc]
    rw [Nat.add_comm, Nat.add_mul_mod_self_right, Nat.mod_eq_of_lt hlt]
    simp only [glL]
    rw [show n - 1 - t = n - (t + 1) by omega]
theorem gc_at {w : Nat → Nat → Int} {n J : Nat} (hJ : J < 6) (hw : ∀ k j, j < J → 0 ≤ w k j ∧ w k j ≤ 99) (hn : n ≤ 2 * J) {t : Nat} (ht : t < n) : gc w n J n 0 / J ^ (n - 1 - t) % J = gj w n J (n - 1 - t) (glL w n J t) := by
  have h := gc_dig hJ hw hn t (by omega)
  obtain ⟨a, b⟩ := glL_ok (n := n) hJ hw hn t (by omega)
  have g := gj_spec (n := n) (r := n - 1 - t) hJ hw a (by omega)
  have h243 : 3 ^ J ≤ 3 ^ 5 := Nat.pow_le_pow_right (by omega) (by omega)
  have hlt := (gc_min hJ hw (n := n) (n - 1 - t) (glL w n J t + 3 ^ gj w n J (n - 1 - t) (glL w n J t)) ((dt_lt J hJ _ a _ g.1).resolve_left (by omega)) (by rw [dl_add hJ (by omega) g.1 g.2.1, b]; omega)).2.1
  have hP : 0 < J ^ (n - 1 - t) := Nat.pow_pos (by omega)
  rw [show n - t = (n - 1 - t) + 1 by omega, Nat.pow_succ] at h
  have e : gc w n J n 0 / J ^ (n - 1 - t) % J = gc w n J n 0 % (J ^ (n - 1 - t) * J) / J ^ (n - 1 - t) := by
    rw [Nat.mod_mul_right_div_self]
  rw [e, h]
  simp only [gc]
  rw [Nat.add_comm, Nat.add_mul_div_right _ _ hP, Nat.div_eq_of_lt hlt, Nat.zero_add]
