/-! the checks, for all places of the tables -/
theorem ch_lt {α : Type} {n : Nat} {t : List (List α)} {x : α} (h : ch n t = some x) : n < 16 * t.length := by
  unfold ch at h
  split at h
  · rename_i r hr
    have := (List.getElem?_eq_some_iff.mp hr).1
    omega
  · cases h
theorem poolAt_some {α : Type} {t : List (List (List (Option α)))} {o i : Nat} {v : α} (h : poolAt t o i = some v) : ∃ c, t[o]? = some c ∧ i < 16 * c.length ∧ o < t.length := by
  unfold poolAt at h
  split at h
  · rename_i c hc
    split at h
    · rename_i x hx
      exact ⟨c, hc, ch_lt hx, (List.getElem?_eq_some_iff.mp hc).1⟩
    · cases h
  · cases h
set_option maxRecDepth 100000 in
theorem fchkx_0 : ∀ r, r < 16 → fchk 0 (64 + r) = true := by decide +kernel
set_option maxRecDepth 100000 in
theorem fchkx_1 : ∀ r, r < 16 → fchk 1 (48 + r) = true := by decide +kernel
set_option maxRecDepth 100000 in
theorem fchkx_2 : ∀ r, r < 16 → fchk 2 (32 + r) = true := by decide +kernel
set_option maxRecDepth 100000 in
theorem fchkx_3 : ∀ r, r < 16 → fchk 3 (32 + r) = true := by decide +kernel
set_option maxRecDepth 100000 in
theorem fchkx_4 : ∀ r, r < 16 → fchk 4 (16 + r) = true := by decide +kernel
set_option maxRecDepth 100000 in
theorem fchkx_5 : ∀ r, r < 16 → fchk 5 (48 + r) = true := by decide +kernel
set_option maxRecDepth 100000 in
theorem fchkx_6 : ∀ r, r < 16 → fchk 6 (224 + r) = true := by decide +kernel
set_option maxRecDepth 100000 in
theorem fchkx_7 : ∀ r, r < 16 → fchk 7 (144 + r) = true := by decide +kernel
set_option maxRecDepth 100000 in
theorem fchkx_8 : ∀ r, r < 16 → fchk 8 (32 + r) = true := by decide +kernel
set_option maxRecDepth 100000 in
theorem fchkx_9 : ∀ r, r < 16 → fchk 9 (384 + r) = true := by decide +kernel
set_option maxRecDepth 100000 in
theorem fchkx_10 : ∀ r, r < 16 → fchk 10 (512 + r) = true := by decide +kernel
theorem fchk_all {o i : Nat} {v : Nat × Nat × Nat} (h : poolAt t_field o i = some v) : fchk o i = true := by
  obtain ⟨c, h1, h2, h3⟩ := poolAt_some h
  have h3 : o < 13 := h3
  have ho : o = 0 ∨ o = 1 ∨ o = 2 ∨ o = 3 ∨ o = 4 ∨ o = 5 ∨ o = 6 ∨ o = 7 ∨ o = 8 ∨ o = 9 ∨ o = 10 ∨ o = 11 ∨ o = 12 := by omega
  rcases ho with rfl | rfl | rfl | rfl | rfl | rfl | rfl | rfl | rfl | rfl | rfl | rfl | rfl
  · cases h1
    have h2 : i < 80 := h2
    by_cases hb : i < 72
    · exact fchk_0 i hb
    · have := fchkx_0 (i - 64) (by omega)
      rwa [show 64 + (i - 64) = i by omega] at this
  · cases h1
    have h2 : i < 64 := h2
    by_cases hb : i < 58
    · exact fchk_1 i hb
    · have := fchkx_1 (i - 48) (by omega)
      rwa [show 48 + (i - 48) = i by omega] at this
  · cases h1
    have h2 : i < 48 := h2
    by_cases hb : i < 46
    · exact fchk_2 i hb
    · have := fchkx_2 (i - 32) (by omega)
      rwa [show 32 + (i - 32) = i by omega] at this
  · cases h1
    have h2 : i < 48 := h2
    by_cases hb : i < 47
    · exact fchk_3 i hb
    · have := fchkx_3 (i - 32) (by omega)
      rwa [show 32 + (i - 32) = i by omega] at this
  · cases h1
    have h2 : i < 32 := h2
    by_cases hb : i < 22
    · exact fchk_4 i hb
    · have := fchkx_4 (i - 16) (by omega)
      rwa [show 16 + (i - 16) = i by omega] at this
  · cases h1
    have h2 : i < 64 := h2
    by_cases hb : i < 58
    · exact fchk_5 i hb
    · have := fchkx_5 (i - 48) (by omega)
      rwa [show 48 + (i - 48) = i by omega] at this
  · cases h1
    have h2 : i < 240 := h2
    by_cases hb : i < 234
    · exact fchk_6 i hb
    · have := fchkx_6 (i - 224) (by omega)
      rwa [show 224 + (i - 224) = i by omega] at this
  · cases h1
    have h2 : i < 160 := h2
    by_cases hb : i < 154
    · exact fchk_7 i hb
    · have := fchkx_7 (i - 144) (by omega)
      rwa [show 144 + (i - 144) = i by omega] at this
  · cases h1
    have h2 : i < 48 := h2
    by_cases hb : i < 44
    · exact fchk_8 i hb
    · have := fchkx_8 (i - 32) (by omega)
      rwa [show 32 + (i - 32) = i by omega] at this
  · cases h1
    have h2 : i < 400 := h2
    by_cases hb : i < 398
    · exact fchk_9 i hb
    · have := fchkx_9 (i - 384) (by omega)
      rwa [show 384 + (i - 384) = i by omega] at this
  · cases h1
    have h2 : i < 528 := h2
    by_cases hb : i < 527
    · exact fchk_10 i hb
    · have := fchkx_10 (i - 512) (by omega)
      rwa [show 512 + (i - 512) = i by omega] at this
  · cases h1; exact absurd h2 (Nat.not_lt_zero _)
  · cases h1; exact absurd h2 (Nat.not_lt_zero _)
set_option maxRecDepth 100000 in
theorem lchkx_0 : ∀ r, r < 16 → lchk 0 (80 + r) = true := by decide +kernel
set_option maxRecDepth 100000 in
theorem lchkx_1 : ∀ r, r < 16 → lchk 1 (48 + r) = true := by decide +kernel
set_option maxRecDepth 100000 in
theorem lchkx_2 : ∀ r, r < 16 → lchk 2 (32 + r) = true := by decide +kernel
set_option maxRecDepth 100000 in
theorem lchkx_3 : ∀ r, r < 16 → lchk 3 (48 + r) = true := by decide +kernel
set_option maxRecDepth 100000 in
theorem lchkx_4 : ∀ r, r < 16 → lchk 4 (16 + r) = true := by decide +kernel
set_option maxRecDepth 100000 in
theorem lchkx_5 : ∀ r, r < 16 → lchk 5 (64 + r) = true := by decide +kernel
set_option maxRecDepth 100000 in
theorem lchkx_6 : ∀ r, r < 16 → lchk 6 (240 + r) = true := by decide +kernel
set_option maxRecDepth 100000 in
theorem lchkx_7 : ∀ r, r < 16 → lchk 7 (128 + r) = true := by decide +kernel
set_option maxRecDepth 100000 in
theorem lchkx_8 : ∀ r, r < 16 → lchk 8 (48 + r) = true := by decide +kernel
set_option maxRecDepth 100000 in
theorem lchkx_9 : ∀ r, r < 16 → lchk 9 (400 + r) = true := by decide +kernel
set_option maxRecDepth 100000 in
theorem lchkx_10 : ∀ r, r < 16 → lchk 10 (544 + r) = true := by decide +kernel
set_option maxRecDepth 100000 in
theorem lchkx_11 : ∀ r, r < 16 → lchk 11 (192 + r) = true := by decide +kernel
theorem lchk_all {o i : Nat} {v : Nat} (h : poolAt t_meth o i = some v) : lchk o i = true := by
  obtain ⟨c, h1, h2, h3⟩ := poolAt_some h
  have h3 : o < 13 := h3
  have ho : o = 0 ∨ o = 1 ∨ o = 2 ∨ o = 3 ∨ o = 4 ∨ o = 5 ∨ o = 6 ∨ o = 7 ∨ o = 8 ∨ o = 9 ∨ o = 10 ∨ o = 11 ∨ o = 12 := by omega
  rcases ho with rfl | rfl | rfl | rfl | rfl | rfl | rfl | rfl | rfl | rfl | rfl | rfl | rfl
  · cases h1
    have h2 : i < 96 := h2
    by_cases hb : i < 85
    · exact lchk_0 i hb
    · have := lchkx_0 (i - 80) (by omega)
      rwa [show 80 + (i - 80) = i by omega] at this
  · cases h1
    have h2 : i < 64 := h2
    by_cases hb : i < 61
    · exact lchk_1 i hb
    · have := lchkx_1 (i - 48) (by omega)
      rwa [show 48 + (i - 48) = i by omega] at this
  · cases h1
    have h2 : i < 48 := h2
    by_cases hb : i < 43
    · exact lchk_2 i hb
    · have := lchkx_2 (i - 32) (by omega)
      rwa [show 32 + (i - 32) = i by omega] at this
  · cases h1
    have h2 : i < 64 := h2
    by_cases hb : i < 64
    · exact lchk_3 i hb
    · have := lchkx_3 (i - 48) (by omega)
      rwa [show 48 + (i - 48) = i by omega] at this
  · cases h1
    have h2 : i < 32 := h2
    by_cases hb : i < 26
    · exact lchk_4 i hb
    · have := lchkx_4 (i - 16) (by omega)
      rwa [show 16 + (i - 16) = i by omega] at this
  · cases h1
    have h2 : i < 80 := h2
    by_cases hb : i < 72
    · exact lchk_5 i hb
    · have := lchkx_5 (i - 64) (by omega)
      rwa [show 64 + (i - 64) = i by omega] at this
  · cases h1
    have h2 : i < 256 := h2
    by_cases hb : i < 255
    · exact lchk_6 i hb
    · have := lchkx_6 (i - 240) (by omega)
      rwa [show 240 + (i - 240) = i by omega] at this
  · cases h1
    have h2 : i < 144 := h2
    by_cases hb : i < 142
    · exact lchk_7 i hb
    · have := lchkx_7 (i - 128) (by omega)
      rwa [show 128 + (i - 128) = i by omega] at this
  · cases h1
    have h2 : i < 64 := h2
    by_cases hb : i < 57
    · exact lchk_8 i hb
    · have := lchkx_8 (i - 48) (by omega)
      rwa [show 48 + (i - 48) = i by omega] at this
  · cases h1
    have h2 : i < 416 := h2
    by_cases hb : i < 406
    · exact lchk_9 i hb
    · have := lchkx_9 (i - 400) (by omega)
      rwa [show 400 + (i - 400) = i by omega] at this
  · cases h1
    have h2 : i < 560 := h2
    by_cases hb : i < 545
    · exact lchk_10 i hb
    · have := lchkx_10 (i - 544) (by omega)
      rwa [show 544 + (i - 544) = i by omega] at this
  · cases h1
    have h2 : i < 208 := h2
    by_cases hb : i < 199
    · exact lchk_11 i hb
    · have := lchkx_11 (i - 192) (by omega)
      rwa [show 192 + (i - 192) = i by omega] at this
  · cases h1; exact absurd h2 (Nat.not_lt_zero _)
set_option maxRecDepth 100000 in
theorem cchkx_0 : ∀ r, r < 16 → cchk 0 (48 + r) = true := by decide +kernel
set_option maxRecDepth 100000 in
theorem cchkx_9 : ∀ r, r < 16 → cchk 9 (160 + r) = true := by decide +kernel
set_option maxRecDepth 100000 in
theorem cchkx_11 : ∀ r, r < 16 → cchk 11 (16 + r) = true := by decide +kernel
theorem cchk_all {o i : Nat} {v : Nat} (h : poolAt t_class o i = some v) : cchk o i = true := by
  obtain ⟨c, h1, h2, h3⟩ := poolAt_some h
  have h3 : o < 13 := h3
  have ho : o = 0 ∨ o = 1 ∨ o = 2 ∨ o = 3 ∨ o = 4 ∨ o = 5 ∨ o = 6 ∨ o = 7 ∨ o = 8 ∨ o = 9 ∨ o = 10 ∨ o = 11 ∨ o = 12 := by omega
  rcases ho with rfl | rfl | rfl | rfl | rfl | rfl | rfl | rfl | rfl | rfl | rfl | rfl | rfl
  · cases h1
    have h2 : i < 64 := h2
    by_cases hb : i < 50
    · exact cchk_0 i hb
    · have := cchkx_0 (i - 48) (by omega)
      rwa [show 48 + (i - 48) = i by omega] at this
  · cases h1; exact absurd h2 (Nat.not_lt_zero _)
  · cases h1; exact absurd h2 (Nat.not_lt_zero _)
  · cases h1; exact absurd h2 (Nat.not_lt_zero _)
  · cases h1; exact absurd h2 (Nat.not_lt_zero _)
  · cases h1; exact absurd h2 (Nat.not_lt_zero _)
  · cases h1; exact absurd h2 (Nat.not_lt_zero _)
  · cases h1; exact absurd h2 (Nat.not_lt_zero _)
  · cases h1; exact absurd h2 (Nat.not_lt_zero _)
  · cases h1
    have h2 : i < 176 := h2
    by_cases hb : i < 176
    · exact cchk_9 i hb
    · have := cchkx_9 (i - 160) (by omega)
      rwa [show 160 + (i - 160) = i by omega] at this
  · cases h1; exact absurd h2 (Nat.not_lt_zero _)
  · cases h1
    have h2 : i < 32 := h2
    by_cases hb : i < 19
    · exact cchk_11 i hb
    · have := cchkx_11 (i - 16) (by omega)
      rwa [show 16 + (i - 16) = i by omega] at this
  · cases h1; exact absurd h2 (Nat.not_lt_zero _)
set_option maxRecDepth 100000 in
theorem kchkx_1 : ∀ r, r < 16 → kchk 1 (32 + r) = true := by decide +kernel
set_option maxRecDepth 100000 in
theorem kchkx_9 : ∀ r, r < 16 → kchk 9 (288 + r) = true := by decide +kernel
set_option maxRecDepth 100000 in
theorem kchkx_10 : ∀ r, r < 16 → kchk 10 (192 + r) = true := by decide +kernel
set_option maxRecDepth 100000 in
theorem kchkx_12 : ∀ r, r < 16 → kchk 12 (256 + r) = true := by decide +kernel
theorem kchk_all {o i : Nat} {v : Int} (h : poolAt t_const o i = some v) : kchk o i = true := by
  obtain ⟨c, h1, h2, h3⟩ := poolAt_some h
  have h3 : o < 13 := h3
  have ho : o = 0 ∨ o = 1 ∨ o = 2 ∨ o = 3 ∨ o = 4 ∨ o = 5 ∨ o = 6 ∨ o = 7 ∨ o = 8 ∨ o = 9 ∨ o = 10 ∨ o = 11 ∨ o = 12 := by omega
  rcases ho with rfl | rfl | rfl | rfl | rfl | rfl | rfl | rfl | rfl | rfl | rfl | rfl | rfl
  · cases h1; exact absurd h2 (Nat.not_lt_zero _)
  · cases h1
    have h2 : i < 48 := h2
    by_cases hb : i < 44
    · exact kchk_1 i hb
    · have := kchkx_1 (i - 32) (by omega)
      rwa [show 32 + (i - 32) = i by omega] at this
  · cases h1; exact absurd h2 (Nat.not_lt_zero _)
  · cases h1; exact absurd h2 (Nat.not_lt_zero _)
  · cases h1; exact absurd h2 (Nat.not_lt_zero _)
  · cases h1; exact absurd h2 (Nat.not_lt_zero _)
  · cases h1; exact absurd h2 (Nat.not_lt_zero _)
  · cases h1; exact absurd h2 (Nat.not_lt_zero _)
  · cases h1; exact absurd h2 (Nat.not_lt_zero _)
  · cases h1
    have h2 : i < 304 := h2
    by_cases hb : i < 296
    · exact kchk_9 i hb
    · have := kchkx_9 (i - 288) (by omega)
      rwa [show 288 + (i - 288) = i by omega] at this
  · cases h1
    have h2 : i < 208 := h2
    by_cases hb : i < 202
    · exact kchk_10 i hb
    · have := kchkx_10 (i - 192) (by omega)
      rwa [show 192 + (i - 192) = i by omega] at this
  · cases h1; exact absurd h2 (Nat.not_lt_zero _)
  · cases h1
    have h2 : i < 272 := h2
    by_cases hb : i < 268
    · exact kchk_12 i hb
    · have := kchkx_12 (i - 256) (by omega)
      rwa [show 256 + (i - 256) = i by omega] at this
set_option maxRecDepth 100000 in
theorem klchkx_5 : ∀ r, r < 16 → klchk 5 (48 + r) = true := by decide +kernel
set_option maxRecDepth 100000 in
theorem klchkx_9 : ∀ r, r < 16 → klchk 9 (368 + r) = true := by decide +kernel
set_option maxRecDepth 100000 in
theorem klchkx_10 : ∀ r, r < 16 → klchk 10 (528 + r) = true := by decide +kernel
theorem klchk_all {o i : Nat} {v : Int} (h : poolAt t_constL o i = some v) : klchk o i = true := by
  obtain ⟨c, h1, h2, h3⟩ := poolAt_some h
  have h3 : o < 13 := h3
  have ho : o = 0 ∨ o = 1 ∨ o = 2 ∨ o = 3 ∨ o = 4 ∨ o = 5 ∨ o = 6 ∨ o = 7 ∨ o = 8 ∨ o = 9 ∨ o = 10 ∨ o = 11 ∨ o = 12 := by omega
  rcases ho with rfl | rfl | rfl | rfl | rfl | rfl | rfl | rfl | rfl | rfl | rfl | rfl | rfl
  · cases h1; exact absurd h2 (Nat.not_lt_zero _)
  · cases h1; exact absurd h2 (Nat.not_lt_zero _)
  · cases h1; exact absurd h2 (Nat.not_lt_zero _)
  · cases h1; exact absurd h2 (Nat.not_lt_zero _)
  · cases h1; exact absurd h2 (Nat.not_lt_zero _)
  · cases h1
    have h2 : i < 64 := h2
    by_cases hb : i < 63
    · exact klchk_5 i hb
    · have := klchkx_5 (i - 48) (by omega)
      rwa [show 48 + (i - 48) = i by omega] at this
  · cases h1; exact absurd h2 (Nat.not_lt_zero _)
  · cases h1; exact absurd h2 (Nat.not_lt_zero _)
  · cases h1; exact absurd h2 (Nat.not_lt_zero _)
  · cases h1
    have h2 : i < 384 := h2
    by_cases hb : i < 380
    · exact klchk_9 i hb
    · have := klchkx_9 (i - 368) (by omega)
      rwa [show 368 + (i - 368) = i by omega] at this
  · cases h1
    have h2 : i < 544 := h2
    by_cases hb : i < 537
    · exact klchk_10 i hb
    · have := klchkx_10 (i - 528) (by omega)
      rwa [show 528 + (i - 528) = i by omega] at this
  · cases h1; exact absurd h2 (Nat.not_lt_zero _)
  · cases h1; exact absurd h2 (Nat.not_lt_zero _)
theorem mchk_all {k : Nat} (h : k < 278) (h1 : k ≠ 275) (h2 : k ≠ 276) : mchk k = true := by
  have ho : (0 ≤ k ∧ k < 16) ∨ (16 ≤ k ∧ k < 32) ∨ (32 ≤ k ∧ k < 48) ∨ (48 ≤ k ∧ k < 64) ∨ (64 ≤ k ∧ k < 80) ∨ (80 ≤ k ∧ k < 96) ∨ (96 ≤ k ∧ k < 112) ∨ (112 ≤ k ∧ k < 128) ∨ (128 ≤ k ∧ k < 144) ∨ (144 ≤ k ∧ k < 160) ∨ (160 ≤ k ∧ k < 176) ∨ (176 ≤ k ∧ k < 192) ∨ (192 ≤ k ∧ k < 208) ∨ (208 ≤ k ∧ k < 224) ∨ (224 ≤ k ∧ k < 240) ∨ (240 ≤ k ∧ k < 256) ∨ (256 ≤ k ∧ k < 272) ∨ (272 ≤ k ∧ k < 278) := by omega
  rcases ho with ⟨q1, q2⟩ | ⟨q1, q2⟩ | ⟨q1, q2⟩ | ⟨q1, q2⟩ | ⟨q1, q2⟩ | ⟨q1, q2⟩ | ⟨q1, q2⟩ | ⟨q1, q2⟩ | ⟨q1, q2⟩ | ⟨q1, q2⟩ | ⟨q1, q2⟩ | ⟨q1, q2⟩ | ⟨q1, q2⟩ | ⟨q1, q2⟩ | ⟨q1, q2⟩ | ⟨q1, q2⟩ | ⟨q1, q2⟩ | ⟨q1, q2⟩
  · exact mchk_0 k (by simp only [List.mem_cons, List.not_mem_nil, or_false]; omega)
  · exact mchk_1 k (by simp only [List.mem_cons, List.not_mem_nil, or_false]; omega)
  · exact mchk_2 k (by simp only [List.mem_cons, List.not_mem_nil, or_false]; omega)
  · exact mchk_3 k (by simp only [List.mem_cons, List.not_mem_nil, or_false]; omega)
  · exact mchk_4 k (by simp only [List.mem_cons, List.not_mem_nil, or_false]; omega)
  · exact mchk_5 k (by simp only [List.mem_cons, List.not_mem_nil, or_false]; omega)
  · exact mchk_6 k (by simp only [List.mem_cons, List.not_mem_nil, or_false]; omega)
  · exact mchk_7 k (by simp only [List.mem_cons, List.not_mem_nil, or_false]; omega)
  · exact mchk_8 k (by simp only [List.mem_cons, List.not_mem_nil, or_false]; omega)
  · exact mchk_9 k (by simp only [List.mem_cons, List.not_mem_nil, or_false]; omega)
  · exact mchk_10 k (by simp only [List.mem_cons, List.not_mem_nil, or_false]; omega)
  · exact mchk_11 k (by simp only [List.mem_cons, List.not_mem_nil, or_false]; omega)
  · exact mchk_12 k (by simp only [List.mem_cons, List.not_mem_nil, or_false]; omega)
  · exact mchk_13 k (by simp only [List.mem_cons, List.not_mem_nil, or_false]; omega)
  · exact mchk_14 k (by simp only [List.mem_cons, List.not_mem_nil, or_false]; omega)
  · exact mchk_15 k (by simp only [List.mem_cons, List.not_mem_nil, or_false]; omega)
  · exact mchk_16 k (by simp only [List.mem_cons, List.not_mem_nil, or_false]; omega)
  · exact mchk_17 k (by simp only [List.mem_cons, List.not_mem_nil, or_false]; omega)
theorem codeW_all {k : Nat} (h : k < 278) (h1 : k ≠ 275) (h2 : k ≠ 276) : codeW k := by
  have ho : (0 ≤ k ∧ k < 16) ∨ (16 ≤ k ∧ k < 32) ∨ (32 ≤ k ∧ k < 48) ∨ (48 ≤ k ∧ k < 64) ∨ (64 ≤ k ∧ k < 80) ∨ (80 ≤ k ∧ k < 96) ∨ (96 ≤ k ∧ k < 112) ∨ (112 ≤ k ∧ k < 128) ∨ (128 ≤ k ∧ k < 144) ∨ (144 ≤ k ∧ k < 160) ∨ (160 ≤ k ∧ k < 176) ∨ (176 ≤ k ∧ k < 192) ∨ (192 ≤ k ∧ k < 208) ∨ (208 ≤ k ∧ k < 224) ∨ (224 ≤ k ∧ k < 240) ∨ (240 ≤ k ∧ k < 256) ∨ (256 ≤ k ∧ k < 272) ∨ (272 ≤ k ∧ k < 278) := by omega
  rcases ho with ⟨q1, q2⟩ | ⟨q1, q2⟩ | ⟨q1, q2⟩ | ⟨q1, q2⟩ | ⟨q1, q2⟩ | ⟨q1, q2⟩ | ⟨q1, q2⟩ | ⟨q1, q2⟩ | ⟨q1, q2⟩ | ⟨q1, q2⟩ | ⟨q1, q2⟩ | ⟨q1, q2⟩ | ⟨q1, q2⟩ | ⟨q1, q2⟩ | ⟨q1, q2⟩ | ⟨q1, q2⟩ | ⟨q1, q2⟩ | ⟨q1, q2⟩
  · have hk : k = 0 ∨ k = 1 ∨ k = 2 ∨ k = 3 ∨ k = 4 ∨ k = 5 ∨ k = 6 ∨ k = 7 ∨ k = 8 ∨ k = 9 ∨ k = 10 ∨ k = 11 ∨ k = 12 ∨ k = 13 ∨ k = 14 ∨ k = 15 := by omega
    rcases hk with rfl | rfl | rfl | rfl | rfl | rfl | rfl | rfl | rfl | rfl | rfl | rfl | rfl | rfl | rfl | rfl
    · exact cw_0
    · exact cw_1
    · exact cw_2
    · exact cw_3
    · exact cw_4
    · exact cw_5
    · exact cw_6
    · exact cw_7
    · exact cw_8
    · exact cw_9
    · exact cw_10
    · exact cw_11
    · exact cw_12
    · exact cw_13
    · exact cw_14
    · exact cw_15
  · have hk : k = 16 ∨ k = 17 ∨ k = 18 ∨ k = 19 ∨ k = 20 ∨ k = 21 ∨ k = 22 ∨ k = 23 ∨ k = 24 ∨ k = 25 ∨ k = 26 ∨ k = 27 ∨ k = 28 ∨ k = 29 ∨ k = 30 ∨ k = 31 := by omega
    rcases hk with rfl | rfl | rfl | rfl | rfl | rfl | rfl | rfl | rfl | rfl | rfl | rfl | rfl | rfl | rfl | rfl
    · exact cw_16
    · exact cw_17
    · exact cw_18
    · exact cw_19
    · exact cw_20
    · exact cw_21
    · exact cw_22
    · exact cw_23
    · exact cw_24
    · exact cw_25
    · exact cw_26
    · exact cw_27
    · exact cw_28
    · exact cw_29
    · exact cw_30
    · exact cw_31
  · have hk : k = 32 ∨ k = 33 ∨ k = 34 ∨ k = 35 ∨ k = 36 ∨ k = 37 ∨ k = 38 ∨ k = 39 ∨ k = 40 ∨ k = 41 ∨ k = 42 ∨ k = 43 ∨ k = 44 ∨ k = 45 ∨ k = 46 ∨ k = 47 := by omega
    rcases hk with rfl | rfl | rfl | rfl | rfl | rfl | rfl | rfl | rfl | rfl | rfl | rfl | rfl | rfl | rfl | rfl
    · exact cw_32
    · exact cw_33
    · exact cw_34
    · exact cw_35
    · exact cw_36
    · exact cw_37
    · exact cw_38
    · exact cw_39
    · exact cw_40
    · exact cw_41
    · exact cw_42
    · exact cw_43
    · exact cw_44
    · exact cw_45
    · exact cw_46
    · exact cw_47
  · have hk : k = 48 ∨ k = 49 ∨ k = 50 ∨ k = 51 ∨ k = 52 ∨ k = 53 ∨ k = 54 ∨ k = 55 ∨ k = 56 ∨ k = 57 ∨ k = 58 ∨ k = 59 ∨ k = 60 ∨ k = 61 ∨ k = 62 ∨ k = 63 := by omega
    rcases hk with rfl | rfl | rfl | rfl | rfl | rfl | rfl | rfl | rfl | rfl | rfl | rfl | rfl | rfl | rfl | rfl
    · exact cw_48
    · exact cw_49
    · exact cw_50
    · exact cw_51
    · exact cw_52
    · exact cw_53
    · exact cw_54
    · exact cw_55
    · exact cw_56
    · exact cw_57
    · exact cw_58
    · exact cw_59
    · exact cw_60
    · exact cw_61
    · exact cw_62
    · exact cw_63
  · have hk : k = 64 ∨ k = 65 ∨ k = 66 ∨ k = 67 ∨ k = 68 ∨ k = 69 ∨ k = 70 ∨ k = 71 ∨ k = 72 ∨ k = 73 ∨ k = 74 ∨ k = 75 ∨ k = 76 ∨ k = 77 ∨ k = 78 ∨ k = 79 := by omega
    rcases hk with rfl | rfl | rfl | rfl | rfl | rfl | rfl | rfl | rfl | rfl | rfl | rfl | rfl | rfl | rfl | rfl
    · exact cw_64
    · exact cw_65
    · exact cw_66
    · exact cw_67
    · exact cw_68
    · exact cw_69
    · exact cw_70
    · exact cw_71
    · exact cw_72
    · exact cw_73
    · exact cw_74
    · exact cw_75
    · exact cw_76
    · exact cw_77
    · exact cw_78
    · exact cw_79
  · have hk : k = 80 ∨ k = 81 ∨ k = 82 ∨ k = 83 ∨ k = 84 ∨ k = 85 ∨ k = 86 ∨ k = 87 ∨ k = 88 ∨ k = 89 ∨ k = 90 ∨ k = 91 ∨ k = 92 ∨ k = 93 ∨ k = 94 ∨ k = 95 := by omega
    rcases hk with rfl | rfl | rfl | rfl | rfl | rfl | rfl | rfl | rfl | rfl | rfl | rfl | rfl | rfl | rfl | rfl
    · exact cw_80
    · exact cw_81
    · exact cw_82
    · exact cw_83
    · exact cw_84
    · exact cw_85
    · exact cw_86
    · exact cw_87
    · exact cw_88
    · exact cw_89
    · exact cw_90
    · exact cw_91
    · exact cw_92
    · exact cw_93
    · exact cw_94
    · exact cw_95
  · have hk : k = 96 ∨ k = 97 ∨ k = 98 ∨ k = 99 ∨ k = 100 ∨ k = 101 ∨ k = 102 ∨ k = 103 ∨ k = 104 ∨ k = 105 ∨ k = 106 ∨ k = 107 ∨ k = 108 ∨ k = 109 ∨ k = 110 ∨ k = 111 := by omega
    rcases hk with rfl | rfl | rfl | rfl | rfl | rfl | rfl | rfl | rfl | rfl | rfl | rfl | rfl | rfl | rfl | rfl
    · exact cw_96
    · exact cw_97
    · exact cw_98
    · exact cw_99
    · exact cw_100
    · exact cw_101
    · exact cw_102
    · exact cw_103
    · exact cw_104
    · exact cw_105
    · exact cw_106
    · exact cw_107
    · exact cw_108
    · exact cw_109
    · exact cw_110
    · exact cw_111
  · have hk : k = 112 ∨ k = 113 ∨ k = 114 ∨ k = 115 ∨ k = 116 ∨ k = 117 ∨ k = 118 ∨ k = 119 ∨ k = 120 ∨ k = 121 ∨ k = 122 ∨ k = 123 ∨ k = 124 ∨ k = 125 ∨ k = 126 ∨ k = 127 := by omega
    rcases hk with rfl | rfl | rfl | rfl | rfl | rfl | rfl | rfl | rfl | rfl | rfl | rfl | rfl | rfl | rfl | rfl
    · exact cw_112
    · exact cw_113
    · exact cw_114
    · exact cw_115
    · exact cw_116
    · exact cw_117
    · exact cw_118
    · exact cw_119
    · exact cw_120
    · exact cw_121
    · exact cw_122
    · exact cw_123
    · exact cw_124
    · exact cw_125
    · exact cw_126
    · exact cw_127
  · have hk : k = 128 ∨ k = 129 ∨ k = 130 ∨ k = 131 ∨ k = 132 ∨ k = 133 ∨ k = 134 ∨ k = 135 ∨ k = 136 ∨ k = 137 ∨ k = 138 ∨ k = 139 ∨ k = 140 ∨ k = 141 ∨ k = 142 ∨ k = 143 := by omega
    rcases hk with rfl | rfl | rfl | rfl | rfl | rfl | rfl | rfl | rfl | rfl | rfl | rfl | rfl | rfl | rfl | rfl
    · exact cw_128
    · exact cw_129
    · exact cw_130
    · exact cw_131
    · exact cw_132
    · exact cw_133
    · exact cw_134
    · exact cw_135
    · exact cw_136
    · exact cw_137
    · exact cw_138
    · exact cw_139
    · exact cw_140
    · exact cw_141
    · exact cw_142
    · exact cw_143
  · have hk : k = 144 ∨ k = 145 ∨ k = 146 ∨ k = 147 ∨ k = 148 ∨ k = 149 ∨ k = 150 ∨ k = 151 ∨ k = 152 ∨ k = 153 ∨ k = 154 ∨ k = 155 ∨ k = 156 ∨ k = 157 ∨ k = 158 ∨ k = 159 := by omega
    rcases hk with rfl | rfl | rfl | rfl | rfl | rfl | rfl | rfl | rfl | rfl | rfl | rfl | rfl | rfl | rfl | rfl
    · exact cw_144
    · exact cw_145
    · exact cw_146
    · exact cw_147
    · exact cw_148
    · exact cw_149
    · exact cw_150
    · exact cw_151
    · exact cw_152
    · exact cw_153
    · exact cw_154
    · exact cw_155
    · exact cw_156
    · exact cw_157
    · exact cw_158
    · exact cw_159
  · have hk : k = 160 ∨ k = 161 ∨ k = 162 ∨ k = 163 ∨ k = 164 ∨ k = 165 ∨ k = 166 ∨ k = 167 ∨ k = 168 ∨ k = 169 ∨ k = 170 ∨ k = 171 ∨ k = 172 ∨ k = 173 ∨ k = 174 ∨ k = 175 := by omega
    rcases hk with rfl | rfl | rfl | rfl | rfl | rfl | rfl | rfl | rfl | rfl | rfl | rfl | rfl | rfl | rfl | rfl
    · exact cw_160
    · exact cw_161
    · exact cw_162
    · exact cw_163
    · exact cw_164
    · exact cw_165
    · exact cw_166
    · exact cw_167
    · exact cw_168
    · exact cw_169
    · exact cw_170
    · exact cw_171
    · exact cw_172
    · exact cw_173
    · exact cw_174
    · exact cw_175
  · have hk : k = 176 ∨ k = 177 ∨ k = 178 ∨ k = 179 ∨ k = 180 ∨ k = 181 ∨ k = 182 ∨ k = 183 ∨ k = 184 ∨ k = 185 ∨ k = 186 ∨ k = 187 ∨ k = 188 ∨ k = 189 ∨ k = 190 ∨ k = 191 := by omega
    rcases hk with rfl | rfl | rfl | rfl | rfl | rfl | rfl | rfl | rfl | rfl | rfl | rfl | rfl | rfl | rfl | rfl
    · exact cw_176
    · exact cw_177
    · exact cw_178
    · exact cw_179
    · exact cw_180
    · exact cw_181
    · exact cw_182
    · exact cw_183
    · exact cw_184
    · exact cw_185
    · exact cw_186
    · exact cw_187
    · exact cw_188
    · exact cw_189
    · exact cw_190
    · exact cw_191
  · have hk : k = 192 ∨ k = 193 ∨ k = 194 ∨ k = 195 ∨ k = 196 ∨ k = 197 ∨ k = 198 ∨ k = 199 ∨ k = 200 ∨ k = 201 ∨ k = 202 ∨ k = 203 ∨ k = 204 ∨ k = 205 ∨ k = 206 ∨ k = 207 := by omega
    rcases hk with rfl | rfl | rfl | rfl | rfl | rfl | rfl | rfl | rfl | rfl | rfl | rfl | rfl | rfl | rfl | rfl
    · exact cw_192
    · exact cw_193
    · exact cw_194
    · exact cw_195
    · exact cw_196
    · exact cw_197
    · exact cw_198
    · exact cw_199
    · exact cw_200
    · exact cw_201
    · exact cw_202
    · exact cw_203
    · exact cw_204
    · exact cw_205
    · exact cw_206
    · exact cw_207
  · have hk : k = 208 ∨ k = 209 ∨ k = 210 ∨ k = 211 ∨ k = 212 ∨ k = 213 ∨ k = 214 ∨ k = 215 ∨ k = 216 ∨ k = 217 ∨ k = 218 ∨ k = 219 ∨ k = 220 ∨ k = 221 ∨ k = 222 ∨ k = 223 := by omega
    rcases hk with rfl | rfl | rfl | rfl | rfl | rfl | rfl | rfl | rfl | rfl | rfl | rfl | rfl | rfl | rfl | rfl
    · exact cw_208
    · exact cw_209
    · exact cw_210
    · exact cw_211
    · exact cw_212
    · exact cw_213
    · exact cw_214
    · exact cw_215
    · exact cw_216
    · exact cw_217
    · exact cw_218
    · exact cw_219
    · exact cw_220
    · exact cw_221
    · exact cw_222
    · exact cw_223
  · have hk : k = 224 ∨ k = 225 ∨ k = 226 ∨ k = 227 ∨ k = 228 ∨ k = 229 ∨ k = 230 ∨ k = 231 ∨ k = 232 ∨ k = 233 ∨ k = 234 ∨ k = 235 ∨ k = 236 ∨ k = 237 ∨ k = 238 ∨ k = 239 := by omega
    rcases hk with rfl | rfl | rfl | rfl | rfl | rfl | rfl | rfl | rfl | rfl | rfl | rfl | rfl | rfl | rfl | rfl
    · exact cw_224
    · exact cw_225
    · exact cw_226
    · exact cw_227
    · exact cw_228
    · exact cw_229
    · exact cw_230
    · exact cw_231
    · exact cw_232
    · exact cw_233
    · exact cw_234
    · exact cw_235
    · exact cw_236
    · exact cw_237
    · exact cw_238
    · exact cw_239
  · have hk : k = 240 ∨ k = 241 ∨ k = 242 ∨ k = 243 ∨ k = 244 ∨ k = 245 ∨ k = 246 ∨ k = 247 ∨ k = 248 ∨ k = 249 ∨ k = 250 ∨ k = 251 ∨ k = 252 ∨ k = 253 ∨ k = 254 ∨ k = 255 := by omega
    rcases hk with rfl | rfl | rfl | rfl | rfl | rfl | rfl | rfl | rfl | rfl | rfl | rfl | rfl | rfl | rfl | rfl
    · exact cw_240
    · exact cw_241
    · exact cw_242
    · exact cw_243
    · exact cw_244
    · exact cw_245
    · exact cw_246
    · exact cw_247
    · exact cw_248
    · exact cw_249
    · exact cw_250
    · exact cw_251
    · exact cw_252
    · exact cw_253
    · exact cw_254
    · exact cw_255
  · have hk : k = 256 ∨ k = 257 ∨ k = 258 ∨ k = 259 ∨ k = 260 ∨ k = 261 ∨ k = 262 ∨ k = 263 ∨ k = 264 ∨ k = 265 ∨ k = 266 ∨ k = 267 ∨ k = 268 ∨ k = 269 ∨ k = 270 ∨ k = 271 := by omega
    rcases hk with rfl | rfl | rfl | rfl | rfl | rfl | rfl | rfl | rfl | rfl | rfl | rfl | rfl | rfl | rfl | rfl
    · exact cw_256
    · exact cw_257
    · exact cw_258
    · exact cw_259
    · exact cw_260
    · exact cw_261
    · exact cw_262
    · exact cw_263
    · exact cw_264
    · exact cw_265
    · exact cw_266
    · exact cw_267
    · exact cw_268
    · exact cw_269
    · exact cw_270
    · exact cw_271
  · have hk : k = 272 ∨ k = 273 ∨ k = 274 ∨ k = 277 := by omega
    rcases hk with rfl | rfl | rfl | rfl
    · exact cw_272
    · exact cw_273
    · exact cw_274
    · exact cw_277
theorem cck_all {j a : Nat} (h : j < 278) : cckR j a = true := by
  have ho : (0 ≤ j ∧ j < 16) ∨ (16 ≤ j ∧ j < 32) ∨ (32 ≤ j ∧ j < 48) ∨ (48 ≤ j ∧ j < 64) ∨ (64 ≤ j ∧ j < 80) ∨ (80 ≤ j ∧ j < 96) ∨ (96 ≤ j ∧ j < 112) ∨ (112 ≤ j ∧ j < 128) ∨ (128 ≤ j ∧ j < 144) ∨ (144 ≤ j ∧ j < 160) ∨ (160 ≤ j ∧ j < 176) ∨ (176 ≤ j ∧ j < 192) ∨ (192 ≤ j ∧ j < 208) ∨ (208 ≤ j ∧ j < 224) ∨ (224 ≤ j ∧ j < 240) ∨ (240 ≤ j ∧ j < 256) ∨ (256 ≤ j ∧ j < 272) ∨ (272 ≤ j ∧ j < 278) := by omega
  have far : ∀ (n : Nat) {k : List (List (Option Instr))}, ch j t_code = some k → k.length = n → ¬ a < n → cckR j a = true := by
    intro n k h1 h2 h3
    unfold cckR
    rw [h1]
    simp only
    rw [List.getElem?_eq_none (by omega)]
  rcases ho with ⟨q1, q2⟩ | ⟨q1, q2⟩ | ⟨q1, q2⟩ | ⟨q1, q2⟩ | ⟨q1, q2⟩ | ⟨q1, q2⟩ | ⟨q1, q2⟩ | ⟨q1, q2⟩ | ⟨q1, q2⟩ | ⟨q1, q2⟩ | ⟨q1, q2⟩ | ⟨q1, q2⟩ | ⟨q1, q2⟩ | ⟨q1, q2⟩ | ⟨q1, q2⟩ | ⟨q1, q2⟩ | ⟨q1, q2⟩ | ⟨q1, q2⟩
  · have hk : j = 0 ∨ j = 1 ∨ j = 2 ∨ j = 3 ∨ j = 4 ∨ j = 5 ∨ j = 6 ∨ j = 7 ∨ j = 8 ∨ j = 9 ∨ j = 10 ∨ j = 11 ∨ j = 12 ∨ j = 13 ∨ j = 14 ∨ j = 15 := by omega
    rcases hk with rfl | rfl | rfl | rfl | rfl | rfl | rfl | rfl | rfl | rfl | rfl | rfl | rfl | rfl | rfl | rfl
    · by_cases q : a < 7
      · exact cck_0 a q
      · exact far 7 (k := k_0) rfl rfl q
    · by_cases q : a < 3
      · exact cck_1 a q
      · exact far 3 (k := k_1) rfl rfl q
    · by_cases q : a < 15
      · exact cck_2 a q
      · exact far 15 (k := k_2) rfl rfl q
    · by_cases q : a < 2
      · exact cck_3 a q
      · exact far 2 (k := k_3) rfl rfl q
    · by_cases q : a < 2
      · exact cck_4 a q
      · exact far 2 (k := k_4) rfl rfl q
    · by_cases q : a < 5
      · exact cck_5 a q
      · exact far 5 (k := k_5) rfl rfl q
    · by_cases q : a < 7
      · exact cck_6 a q
      · exact far 7 (k := k_6) rfl rfl q
    · by_cases q : a < 7
      · exact cck_7 a q
      · exact far 7 (k := k_7) rfl rfl q
    · by_cases q : a < 2
      · exact cck_8 a q
      · exact far 2 (k := k_8) rfl rfl q
    · by_cases q : a < 2
      · exact cck_9 a q
      · exact far 2 (k := k_9) rfl rfl q
    · by_cases q : a < 2
      · exact cck_10 a q
      · exact far 2 (k := k_10) rfl rfl q
    · by_cases q : a < 2
      · exact cck_11 a q
      · exact far 2 (k := k_11) rfl rfl q
    · by_cases q : a < 1
      · exact cck_12 a q
      · exact far 1 (k := k_12) rfl rfl q
    · by_cases q : a < 5
      · exact cck_13 a q
      · exact far 5 (k := k_13) rfl rfl q
    · by_cases q : a < 10
      · exact cck_14 a q
      · exact far 10 (k := k_14) rfl rfl q
    · by_cases q : a < 4
      · exact cck_15 a q
      · exact far 4 (k := k_15) rfl rfl q
  · have hk : j = 16 ∨ j = 17 ∨ j = 18 ∨ j = 19 ∨ j = 20 ∨ j = 21 ∨ j = 22 ∨ j = 23 ∨ j = 24 ∨ j = 25 ∨ j = 26 ∨ j = 27 ∨ j = 28 ∨ j = 29 ∨ j = 30 ∨ j = 31 := by omega
    rcases hk with rfl | rfl | rfl | rfl | rfl | rfl | rfl | rfl | rfl | rfl | rfl | rfl | rfl | rfl | rfl | rfl
    · by_cases q : a < 1
      · exact cck_16 a q
      · exact far 1 (k := k_16) rfl rfl q
    · by_cases q : a < 4
      · exact cck_17 a q
      · exact far 4 (k := k_17) rfl rfl q
    · by_cases q : a < 2
      · exact cck_18 a q
      · exact far 2 (k := k_18) rfl rfl q
    · by_cases q : a < 5
      · exact cck_19 a q
      · exact far 5 (k := k_19) rfl rfl q
    · by_cases q : a < 5
      · exact cck_20 a q
      · exact far 5 (k := k_20) rfl rfl q
    · by_cases q : a < 6
      · exact cck_21 a q
      · exact far 6 (k := k_21) rfl rfl q
    · by_cases q : a < 10
      · exact cck_22 a q
      · exact far 10 (k := k_22) rfl rfl q
    · by_cases q : a < 2
      · exact cck_23 a q
      · exact far 2 (k := k_23) rfl rfl q
    · by_cases q : a < 3
      · exact cck_24 a q
      · exact far 3 (k := k_24) rfl rfl q
    · by_cases q : a < 4
      · exact cck_25 a q
      · exact far 4 (k := k_25) rfl rfl q
    · by_cases q : a < 2
      · exact cck_26 a q
      · exact far 2 (k := k_26) rfl rfl q
    · by_cases q : a < 2
      · exact cck_27 a q
      · exact far 2 (k := k_27) rfl rfl q
    · by_cases q : a < 4
      · exact cck_28 a q
      · exact far 4 (k := k_28) rfl rfl q
    · by_cases q : a < 1
      · exact cck_29 a q
      · exact far 1 (k := k_29) rfl rfl q
    · by_cases q : a < 3
      · exact cck_30 a q
      · exact far 3 (k := k_30) rfl rfl q
    · by_cases q : a < 4
      · exact cck_31 a q
      · exact far 4 (k := k_31) rfl rfl q
  · have hk : j = 32 ∨ j = 33 ∨ j = 34 ∨ j = 35 ∨ j = 36 ∨ j = 37 ∨ j = 38 ∨ j = 39 ∨ j = 40 ∨ j = 41 ∨ j = 42 ∨ j = 43 ∨ j = 44 ∨ j = 45 ∨ j = 46 ∨ j = 47 := by omega
    rcases hk with rfl | rfl | rfl | rfl | rfl | rfl | rfl | rfl | rfl | rfl | rfl | rfl | rfl | rfl | rfl | rfl
    · by_cases q : a < 3
      · exact cck_32 a q
      · exact far 3 (k := k_32) rfl rfl q
    · by_cases q : a < 13
      · exact cck_33 a q
      · exact far 13 (k := k_33) rfl rfl q
    · by_cases q : a < 2
      · exact cck_34 a q
      · exact far 2 (k := k_34) rfl rfl q
    · by_cases q : a < 9
      · exact cck_35 a q
      · exact far 9 (k := k_35) rfl rfl q
    · by_cases q : a < 10
      · exact cck_36 a q
      · exact far 10 (k := k_36) rfl rfl q
    · by_cases q : a < 7
      · exact cck_37 a q
      · exact far 7 (k := k_37) rfl rfl q
    · by_cases q : a < 2
      · exact cck_38 a q
      · exact far 2 (k := k_38) rfl rfl q
    · by_cases q : a < 10
      · exact cck_39 a q
      · exact far 10 (k := k_39) rfl rfl q
    · by_cases q : a < 3
      · exact cck_40 a q
      · exact far 3 (k := k_40) rfl rfl q
    · by_cases q : a < 2
      · exact cck_41 a q
      · exact far 2 (k := k_41) rfl rfl q
    · by_cases q : a < 1
      · exact cck_42 a q
      · exact far 1 (k := k_42) rfl rfl q
    · by_cases q : a < 7
      · exact cck_43 a q
      · exact far 7 (k := k_43) rfl rfl q
    · by_cases q : a < 8
      · exact cck_44 a q
      · exact far 8 (k := k_44) rfl rfl q
    · by_cases q : a < 7
      · exact cck_45 a q
      · exact far 7 (k := k_45) rfl rfl q
    · by_cases q : a < 5
      · exact cck_46 a q
      · exact far 5 (k := k_46) rfl rfl q
    · by_cases q : a < 3
      · exact cck_47 a q
      · exact far 3 (k := k_47) rfl rfl q
  · have hk : j = 48 ∨ j = 49 ∨ j = 50 ∨ j = 51 ∨ j = 52 ∨ j = 53 ∨ j = 54 ∨ j = 55 ∨ j = 56 ∨ j = 57 ∨ j = 58 ∨ j = 59 ∨ j = 60 ∨ j = 61 ∨ j = 62 ∨ j = 63 := by omega
    rcases hk with rfl | rfl | rfl | rfl | rfl | rfl | rfl | rfl | rfl | rfl | rfl | rfl | rfl | rfl | rfl | rfl
    · by_cases q : a < 7
      · exact cck_48 a q
      · exact far 7 (k := k_48) rfl rfl q
    · by_cases q : a < 3
      · exact cck_49 a q
      · exact far 3 (k := k_49) rfl rfl q
    · by_cases q : a < 4
      · exact cck_50 a q
      · exact far 4 (k := k_50) rfl rfl q
    · by_cases q : a < 3
      · exact cck_51 a q
      · exact far 3 (k := k_51) rfl rfl q
    · by_cases q : a < 2
      · exact cck_52 a q
      · exact far 2 (k := k_52) rfl rfl q
    · by_cases q : a < 6
      · exact cck_53 a q
      · exact far 6 (k := k_53) rfl rfl q
    · by_cases q : a < 11
      · exact cck_54 a q
      · exact far 11 (k := k_54) rfl rfl q
    · by_cases q : a < 8
      · exact cck_55 a q
      · exact far 8 (k := k_55) rfl rfl q
    · by_cases q : a < 4
      · exact cck_56 a q
      · exact far 4 (k := k_56) rfl rfl q
    · by_cases q : a < 6
      · exact cck_57 a q
      · exact far 6 (k := k_57) rfl rfl q
    · by_cases q : a < 2
      · exact cck_58 a q
      · exact far 2 (k := k_58) rfl rfl q
    · by_cases q : a < 2
      · exact cck_59 a q
      · exact far 2 (k := k_59) rfl rfl q
    · by_cases q : a < 3
      · exact cck_60 a q
      · exact far 3 (k := k_60) rfl rfl q
    · by_cases q : a < 4
      · exact cck_61 a q
      · exact far 4 (k := k_61) rfl rfl q
    · by_cases q : a < 3
      · exact cck_62 a q
      · exact far 3 (k := k_62) rfl rfl q
    · by_cases q : a < 8
      · exact cck_63 a q
      · exact far 8 (k := k_63) rfl rfl q
  · have hk : j = 64 ∨ j = 65 ∨ j = 66 ∨ j = 67 ∨ j = 68 ∨ j = 69 ∨ j = 70 ∨ j = 71 ∨ j = 72 ∨ j = 73 ∨ j = 74 ∨ j = 75 ∨ j = 76 ∨ j = 77 ∨ j = 78 ∨ j = 79 := by omega
    rcases hk with rfl | rfl | rfl | rfl | rfl | rfl | rfl | rfl | rfl | rfl | rfl | rfl | rfl | rfl | rfl | rfl
    · by_cases q : a < 2
      · exact cck_64 a q
      · exact far 2 (k := k_64) rfl rfl q
    · by_cases q : a < 2
      · exact cck_65 a q
      · exact far 2 (k := k_65) rfl rfl q
    · by_cases q : a < 2
      · exact cck_66 a q
      · exact far 2 (k := k_66) rfl rfl q
    · by_cases q : a < 8
      · exact cck_67 a q
      · exact far 8 (k := k_67) rfl rfl q
    · by_cases q : a < 5
      · exact cck_68 a q
      · exact far 5 (k := k_68) rfl rfl q
    · by_cases q : a < 10
      · exact cck_69 a q
      · exact far 10 (k := k_69) rfl rfl q
    · by_cases q : a < 9
      · exact cck_70 a q
      · exact far 9 (k := k_70) rfl rfl q
    · by_cases q : a < 1
      · exact cck_71 a q
      · exact far 1 (k := k_71) rfl rfl q
    · by_cases q : a < 2
      · exact cck_72 a q
      · exact far 2 (k := k_72) rfl rfl q
    · by_cases q : a < 2
      · exact cck_73 a q
      · exact far 2 (k := k_73) rfl rfl q
    · by_cases q : a < 9
      · exact cck_74 a q
      · exact far 9 (k := k_74) rfl rfl q
    · by_cases q : a < 4
      · exact cck_75 a q
      · exact far 4 (k := k_75) rfl rfl q
    · by_cases q : a < 4
      · exact cck_76 a q
      · exact far 4 (k := k_76) rfl rfl q
    · by_cases q : a < 8
      · exact cck_77 a q
      · exact far 8 (k := k_77) rfl rfl q
    · by_cases q : a < 8
      · exact cck_78 a q
      · exact far 8 (k := k_78) rfl rfl q
    · by_cases q : a < 5
      · exact cck_79 a q
      · exact far 5 (k := k_79) rfl rfl q
  · have hk : j = 80 ∨ j = 81 ∨ j = 82 ∨ j = 83 ∨ j = 84 ∨ j = 85 ∨ j = 86 ∨ j = 87 ∨ j = 88 ∨ j = 89 ∨ j = 90 ∨ j = 91 ∨ j = 92 ∨ j = 93 ∨ j = 94 ∨ j = 95 := by omega
    rcases hk with rfl | rfl | rfl | rfl | rfl | rfl | rfl | rfl | rfl | rfl | rfl | rfl | rfl | rfl | rfl | rfl
    · by_cases q : a < 5
      · exact cck_80 a q
      · exact far 5 (k := k_80) rfl rfl q
    · by_cases q : a < 7
      · exact cck_81 a q
      · exact far 7 (k := k_81) rfl rfl q
    · by_cases q : a < 9
      · exact cck_82 a q
      · exact far 9 (k := k_82) rfl rfl q
    · by_cases q : a < 2
      · exact cck_83 a q
      · exact far 2 (k := k_83) rfl rfl q
    · by_cases q : a < 2
      · exact cck_84 a q
      · exact far 2 (k := k_84) rfl rfl q
    · by_cases q : a < 2
      · exact cck_85 a q
      · exact far 2 (k := k_85) rfl rfl q
    · by_cases q : a < 7
      · exact cck_86 a q
      · exact far 7 (k := k_86) rfl rfl q
    · by_cases q : a < 1
      · exact cck_87 a q
      · exact far 1 (k := k_87) rfl rfl q
    · by_cases q : a < 1
      · exact cck_88 a q
      · exact far 1 (k := k_88) rfl rfl q
    · by_cases q : a < 3
      · exact cck_89 a q
      · exact far 3 (k := k_89) rfl rfl q
    · by_cases q : a < 3
      · exact cck_90 a q
      · exact far 3 (k := k_90) rfl rfl q
    · by_cases q : a < 2
      · exact cck_91 a q
      · exact far 2 (k := k_91) rfl rfl q
    · by_cases q : a < 2
      · exact cck_92 a q
      · exact far 2 (k := k_92) rfl rfl q
    · by_cases q : a < 2
      · exact cck_93 a q
      · exact far 2 (k := k_93) rfl rfl q
    · by_cases q : a < 2
      · exact cck_94 a q
      · exact far 2 (k := k_94) rfl rfl q
    · by_cases q : a < 2
      · exact cck_95 a q
      · exact far 2 (k := k_95) rfl rfl q
  · have hk : j = 96 ∨ j = 97 ∨ j = 98 ∨ j = 99 ∨ j = 100 ∨ j = 101 ∨ j = 102 ∨ j = 103 ∨ j = 104 ∨ j = 105 ∨ j = 106 ∨ j = 107 ∨ j = 108 ∨ j = 109 ∨ j = 110 ∨ j = 111 := by omega
    rcases hk with rfl | rfl | rfl | rfl | rfl | rfl | rfl | rfl | rfl | rfl | rfl | rfl | rfl | rfl | rfl | rfl
    · by_cases q : a < 11
      · exact cck_96 a q
      · exact far 11 (k := k_96) rfl rfl q
    · by_cases q : a < 3
      · exact cck_97 a q
      · exact far 3 (k := k_97) rfl rfl q
    · by_cases q : a < 3
      · exact cck_98 a q
      · exact far 3 (k := k_98) rfl rfl q
    · by_cases q : a < 7
      · exact cck_99 a q
      · exact far 7 (k := k_99) rfl rfl q
    · by_cases q : a < 3
      · exact cck_100 a q
      · exact far 3 (k := k_100) rfl rfl q
    · by_cases q : a < 6
      · exact cck_101 a q
      · exact far 6 (k := k_101) rfl rfl q
    · by_cases q : a < 2
      · exact cck_102 a q
      · exact far 2 (k := k_102) rfl rfl q
    · by_cases q : a < 2
      · exact cck_103 a q
      · exact far 2 (k := k_103) rfl rfl q
    · by_cases q : a < 2
      · exact cck_104 a q
      · exact far 2 (k := k_104) rfl rfl q
    · by_cases q : a < 2
      · exact cck_105 a q
      · exact far 2 (k := k_105) rfl rfl q
    · by_cases q : a < 1
      · exact cck_106 a q
      · exact far 1 (k := k_106) rfl rfl q
    · by_cases q : a < 8
      · exact cck_107 a q
      · exact far 8 (k := k_107) rfl rfl q
    · by_cases q : a < 8
      · exact cck_108 a q
      · exact far 8 (k := k_108) rfl rfl q
    · by_cases q : a < 4
      · exact cck_109 a q
      · exact far 4 (k := k_109) rfl rfl q
    · by_cases q : a < 4
      · exact cck_110 a q
      · exact far 4 (k := k_110) rfl rfl q
    · by_cases q : a < 2
      · exact cck_111 a q
      · exact far 2 (k := k_111) rfl rfl q
  · have hk : j = 112 ∨ j = 113 ∨ j = 114 ∨ j = 115 ∨ j = 116 ∨ j = 117 ∨ j = 118 ∨ j = 119 ∨ j = 120 ∨ j = 121 ∨ j = 122 ∨ j = 123 ∨ j = 124 ∨ j = 125 ∨ j = 126 ∨ j = 127 := by omega
    rcases hk with rfl | rfl | rfl | rfl | rfl | rfl | rfl | rfl | rfl | rfl | rfl | rfl | rfl | rfl | rfl | rfl
    · by_cases q : a < 2
      · exact cck_112 a q
      · exact far 2 (k := k_112) rfl rfl q
    · by_cases q : a < 9
      · exact cck_113 a q
      · exact far 9 (k := k_113) rfl rfl q
    · by_cases q : a < 3
      · exact cck_114 a q
      · exact far 3 (k := k_114) rfl rfl q
    · by_cases q : a < 4
      · exact cck_115 a q
      · exact far 4 (k := k_115) rfl rfl q
    · by_cases q : a < 4
      · exact cck_116 a q
      · exact far 4 (k := k_116) rfl rfl q
    · by_cases q : a < 5
      · exact cck_117 a q
      · exact far 5 (k := k_117) rfl rfl q
    · by_cases q : a < 4
      · exact cck_118 a q
      · exact far 4 (k := k_118) rfl rfl q
    · by_cases q : a < 2
      · exact cck_119 a q
      · exact far 2 (k := k_119) rfl rfl q
    · by_cases q : a < 8
      · exact cck_120 a q
      · exact far 8 (k := k_120) rfl rfl q
    · by_cases q : a < 2
      · exact cck_121 a q
      · exact far 2 (k := k_121) rfl rfl q
    · by_cases q : a < 2
      · exact cck_122 a q
      · exact far 2 (k := k_122) rfl rfl q
    · by_cases q : a < 10
      · exact cck_123 a q
      · exact far 10 (k := k_123) rfl rfl q
    · by_cases q : a < 6
      · exact cck_124 a q
      · exact far 6 (k := k_124) rfl rfl q
    · by_cases q : a < 5
      · exact cck_125 a q
      · exact far 5 (k := k_125) rfl rfl q
    · by_cases q : a < 7
      · exact cck_126 a q
      · exact far 7 (k := k_126) rfl rfl q
    · by_cases q : a < 7
      · exact cck_127 a q
      · exact far 7 (k := k_127) rfl rfl q
  · have hk : j = 128 ∨ j = 129 ∨ j = 130 ∨ j = 131 ∨ j = 132 ∨ j = 133 ∨ j = 134 ∨ j = 135 ∨ j = 136 ∨ j = 137 ∨ j = 138 ∨ j = 139 ∨ j = 140 ∨ j = 141 ∨ j = 142 ∨ j = 143 := by omega
    rcases hk with rfl | rfl | rfl | rfl | rfl | rfl | rfl | rfl | rfl | rfl | rfl | rfl | rfl | rfl | rfl | rfl
    · by_cases q : a < 3
      · exact cck_128 a q
      · exact far 3 (k := k_128) rfl rfl q
    · by_cases q : a < 3
      · exact cck_129 a q
      · exact far 3 (k := k_129) rfl rfl q
    · by_cases q : a < 6
      · exact cck_130 a q
      · exact far 6 (k := k_130) rfl rfl q
    · by_cases q : a < 6
      · exact cck_131 a q
      · exact far 6 (k := k_131) rfl rfl q
    · by_cases q : a < 5
      · exact cck_132 a q
      · exact far 5 (k := k_132) rfl rfl q
    · by_cases q : a < 7
      · exact cck_133 a q
      · exact far 7 (k := k_133) rfl rfl q
    · by_cases q : a < 3
      · exact cck_134 a q
      · exact far 3 (k := k_134) rfl rfl q
    · by_cases q : a < 2
      · exact cck_135 a q
      · exact far 2 (k := k_135) rfl rfl q
    · by_cases q : a < 8
      · exact cck_136 a q
      · exact far 8 (k := k_136) rfl rfl q
    · by_cases q : a < 4
      · exact cck_137 a q
      · exact far 4 (k := k_137) rfl rfl q
    · by_cases q : a < 4
      · exact cck_138 a q
      · exact far 4 (k := k_138) rfl rfl q
    · by_cases q : a < 5
      · exact cck_139 a q
      · exact far 5 (k := k_139) rfl rfl q
    · by_cases q : a < 4
      · exact cck_140 a q
      · exact far 4 (k := k_140) rfl rfl q
    · by_cases q : a < 3
      · exact cck_141 a q
      · exact far 3 (k := k_141) rfl rfl q
    · by_cases q : a < 2
      · exact cck_142 a q
      · exact far 2 (k := k_142) rfl rfl q
    · by_cases q : a < 2
      · exact cck_143 a q
      · exact far 2 (k := k_143) rfl rfl q
  · have hk : j = 144 ∨ j = 145 ∨ j = 146 ∨ j = 147 ∨ j = 148 ∨ j = 149 ∨ j = 150 ∨ j = 151 ∨ j = 152 ∨ j = 153 ∨ j = 154 ∨ j = 155 ∨ j = 156 ∨ j = 157 ∨ j = 158 ∨ j = 159 := by omega
    rcases hk with rfl | rfl | rfl | rfl | rfl | rfl | rfl | rfl | rfl | rfl | rfl | rfl | rfl | rfl | rfl | rfl
    · by_cases q : a < 2
      · exact cck_144 a q
      · exact far 2 (k := k_144) rfl rfl q
    · by_cases q : a < 5
      · exact cck_145 a q
      · exact far 5 (k := k_145) rfl rfl q
    · by_cases q : a < 3
      · exact cck_146 a q
      · exact far 3 (k := k_146) rfl rfl q
    · by_cases q : a < 10
      · exact cck_147 a q
      · exact far 10 (k := k_147) rfl rfl q
    · by_cases q : a < 8
      · exact cck_148 a q
      · exact far 8 (k := k_148) rfl rfl q
    · by_cases q : a < 9
      · exact cck_149 a q
      · exact far 9 (k := k_149) rfl rfl q
    · by_cases q : a < 2
      · exact cck_150 a q
      · exact far 2 (k := k_150) rfl rfl q
    · by_cases q : a < 2
      · exact cck_151 a q
      · exact far 2 (k := k_151) rfl rfl q
    · by_cases q : a < 3
      · exact cck_152 a q
      · exact far 3 (k := k_152) rfl rfl q
    · by_cases q : a < 12
      · exact cck_153 a q
      · exact far 12 (k := k_153) rfl rfl q
    · by_cases q : a < 60
      · exact cck_154 a q
      · exact far 60 (k := k_154) rfl rfl q
    · by_cases q : a < 1
      · exact cck_155 a q
      · exact far 1 (k := k_155) rfl rfl q
    · by_cases q : a < 9
      · exact cck_156 a q
      · exact far 9 (k := k_156) rfl rfl q
    · by_cases q : a < 1
      · exact cck_157 a q
      · exact far 1 (k := k_157) rfl rfl q
    · by_cases q : a < 1
      · exact cck_158 a q
      · exact far 1 (k := k_158) rfl rfl q
    · by_cases q : a < 1
      · exact cck_159 a q
      · exact far 1 (k := k_159) rfl rfl q
  · have hk : j = 160 ∨ j = 161 ∨ j = 162 ∨ j = 163 ∨ j = 164 ∨ j = 165 ∨ j = 166 ∨ j = 167 ∨ j = 168 ∨ j = 169 ∨ j = 170 ∨ j = 171 ∨ j = 172 ∨ j = 173 ∨ j = 174 ∨ j = 175 := by omega
    rcases hk with rfl | rfl | rfl | rfl | rfl | rfl | rfl | rfl | rfl | rfl | rfl | rfl | rfl | rfl | rfl | rfl
    · by_cases q : a < 8
      · exact cck_160 a q
      · exact far 8 (k := k_160) rfl rfl q
    · by_cases q : a < 3
      · exact cck_161 a q
      · exact far 3 (k := k_161) rfl rfl q
    · by_cases q : a < 3
      · exact cck_162 a q
      · exact far 3 (k := k_162) rfl rfl q
    · by_cases q : a < 18
      · exact cck_163 a q
      · exact far 18 (k := k_163) rfl rfl q
    · by_cases q : a < 19
      · exact cck_164 a q
      · exact far 19 (k := k_164) rfl rfl q
    · by_cases q : a < 3
      · exact cck_165 a q
      · exact far 3 (k := k_165) rfl rfl q
    · by_cases q : a < 2
      · exact cck_166 a q
      · exact far 2 (k := k_166) rfl rfl q
    · by_cases q : a < 2
      · exact cck_167 a q
      · exact far 2 (k := k_167) rfl rfl q
    · by_cases q : a < 3
      · exact cck_168 a q
      · exact far 3 (k := k_168) rfl rfl q
    · by_cases q : a < 5
      · exact cck_169 a q
      · exact far 5 (k := k_169) rfl rfl q
    · by_cases q : a < 2
      · exact cck_170 a q
      · exact far 2 (k := k_170) rfl rfl q
    · by_cases q : a < 14
      · exact cck_171 a q
      · exact far 14 (k := k_171) rfl rfl q
    · by_cases q : a < 2
      · exact cck_172 a q
      · exact far 2 (k := k_172) rfl rfl q
    · by_cases q : a < 3
      · exact cck_173 a q
      · exact far 3 (k := k_173) rfl rfl q
    · by_cases q : a < 7
      · exact cck_174 a q
      · exact far 7 (k := k_174) rfl rfl q
    · by_cases q : a < 10
      · exact cck_175 a q
      · exact far 10 (k := k_175) rfl rfl q
  · have hk : j = 176 ∨ j = 177 ∨ j = 178 ∨ j = 179 ∨ j = 180 ∨ j = 181 ∨ j = 182 ∨ j = 183 ∨ j = 184 ∨ j = 185 ∨ j = 186 ∨ j = 187 ∨ j = 188 ∨ j = 189 ∨ j = 190 ∨ j = 191 := by omega
    rcases hk with rfl | rfl | rfl | rfl | rfl | rfl | rfl | rfl | rfl | rfl | rfl | rfl | rfl | rfl | rfl | rfl
    · by_cases q : a < 7
      · exact cck_176 a q
      · exact far 7 (k := k_176) rfl rfl q
    · by_cases q : a < 4
      · exact cck_177 a q
      · exact far 4 (k := k_177) rfl rfl q
    · by_cases q : a < 4
      · exact cck_178 a q
      · exact far 4 (k := k_178) rfl rfl q
    · by_cases q : a < 14
      · exact cck_179 a q
      · exact far 14 (k := k_179) rfl rfl q
    · by_cases q : a < 6
      · exact cck_180 a q
      · exact far 6 (k := k_180) rfl rfl q
    · by_cases q : a < 2
      · exact cck_181 a q
      · exact far 2 (k := k_181) rfl rfl q
    · by_cases q : a < 5
      · exact cck_182 a q
      · exact far 5 (k := k_182) rfl rfl q
    · by_cases q : a < 4
      · exact cck_183 a q
      · exact far 4 (k := k_183) rfl rfl q
    · by_cases q : a < 5
      · exact cck_184 a q
      · exact far 5 (k := k_184) rfl rfl q
    · by_cases q : a < 2
      · exact cck_185 a q
      · exact far 2 (k := k_185) rfl rfl q
    · by_cases q : a < 5
      · exact cck_186 a q
      · exact far 5 (k := k_186) rfl rfl q
    · by_cases q : a < 2
      · exact cck_187 a q
      · exact far 2 (k := k_187) rfl rfl q
    · by_cases q : a < 2
      · exact cck_188 a q
      · exact far 2 (k := k_188) rfl rfl q
    · by_cases q : a < 2
      · exact cck_189 a q
      · exact far 2 (k := k_189) rfl rfl q
    · by_cases q : a < 11
      · exact cck_190 a q
      · exact far 11 (k := k_190) rfl rfl q
    · by_cases q : a < 17
      · exact cck_191 a q
      · exact far 17 (k := k_191) rfl rfl q
  · have hk : j = 192 ∨ j = 193 ∨ j = 194 ∨ j = 195 ∨ j = 196 ∨ j = 197 ∨ j = 198 ∨ j = 199 ∨ j = 200 ∨ j = 201 ∨ j = 202 ∨ j = 203 ∨ j = 204 ∨ j = 205 ∨ j = 206 ∨ j = 207 := by omega
    rcases hk with rfl | rfl | rfl | rfl | rfl | rfl | rfl | rfl | rfl | rfl | rfl | rfl | rfl | rfl | rfl | rfl
    · by_cases q : a < 6
      · exact cck_192 a q
      · exact far 6 (k := k_192) rfl rfl q
    · by_cases q : a < 3
      · exact cck_193 a q
      · exact far 3 (k := k_193) rfl rfl q
    · by_cases q : a < 7
      · exact cck_194 a q
      · exact far 7 (k := k_194) rfl rfl q
    · by_cases q : a < 6
      · exact cck_195 a q
      · exact far 6 (k := k_195) rfl rfl q
    · by_cases q : a < 18
      · exact cck_196 a q
      · exact far 18 (k := k_196) rfl rfl q
    · by_cases q : a < 9
      · exact cck_197 a q
      · exact far 9 (k := k_197) rfl rfl q
    · by_cases q : a < 3
      · exact cck_198 a q
      · exact far 3 (k := k_198) rfl rfl q
    · by_cases q : a < 14
      · exact cck_199 a q
      · exact far 14 (k := k_199) rfl rfl q
    · by_cases q : a < 2
      · exact cck_200 a q
      · exact far 2 (k := k_200) rfl rfl q
    · by_cases q : a < 2
      · exact cck_201 a q
      · exact far 2 (k := k_201) rfl rfl q
    · by_cases q : a < 2
      · exact cck_202 a q
      · exact far 2 (k := k_202) rfl rfl q
    · by_cases q : a < 3
      · exact cck_203 a q
      · exact far 3 (k := k_203) rfl rfl q
    · by_cases q : a < 2
      · exact cck_204 a q
      · exact far 2 (k := k_204) rfl rfl q
    · by_cases q : a < 2
      · exact cck_205 a q
      · exact far 2 (k := k_205) rfl rfl q
    · by_cases q : a < 7
      · exact cck_206 a q
      · exact far 7 (k := k_206) rfl rfl q
    · by_cases q : a < 4
      · exact cck_207 a q
      · exact far 4 (k := k_207) rfl rfl q
  · have hk : j = 208 ∨ j = 209 ∨ j = 210 ∨ j = 211 ∨ j = 212 ∨ j = 213 ∨ j = 214 ∨ j = 215 ∨ j = 216 ∨ j = 217 ∨ j = 218 ∨ j = 219 ∨ j = 220 ∨ j = 221 ∨ j = 222 ∨ j = 223 := by omega
    rcases hk with rfl | rfl | rfl | rfl | rfl | rfl | rfl | rfl | rfl | rfl | rfl | rfl | rfl | rfl | rfl | rfl
    · by_cases q : a < 5
      · exact cck_208 a q
      · exact far 5 (k := k_208) rfl rfl q
    · by_cases q : a < 7
      · exact cck_209 a q
      · exact far 7 (k := k_209) rfl rfl q
    · by_cases q : a < 10
      · exact cck_210 a q
      · exact far 10 (k := k_210) rfl rfl q
    · by_cases q : a < 10
      · exact cck_211 a q
      · exact far 10 (k := k_211) rfl rfl q
    · by_cases q : a < 7
      · exact cck_212 a q
      · exact far 7 (k := k_212) rfl rfl q
    · by_cases q : a < 12
      · exact cck_213 a q
      · exact far 12 (k := k_213) rfl rfl q
    · by_cases q : a < 4
      · exact cck_214 a q
      · exact far 4 (k := k_214) rfl rfl q
    · by_cases q : a < 10
      · exact cck_215 a q
      · exact far 10 (k := k_215) rfl rfl q
    · by_cases q : a < 2
      · exact cck_216 a q
      · exact far 2 (k := k_216) rfl rfl q
    · by_cases q : a < 2
      · exact cck_217 a q
      · exact far 2 (k := k_217) rfl rfl q
    · by_cases q : a < 3
      · exact cck_218 a q
      · exact far 3 (k := k_218) rfl rfl q
    · by_cases q : a < 3
      · exact cck_219 a q
      · exact far 3 (k := k_219) rfl rfl q
    · by_cases q : a < 3
      · exact cck_220 a q
      · exact far 3 (k := k_220) rfl rfl q
    · by_cases q : a < 1
      · exact cck_221 a q
      · exact far 1 (k := k_221) rfl rfl q
    · by_cases q : a < 7
      · exact cck_222 a q
      · exact far 7 (k := k_222) rfl rfl q
    · by_cases q : a < 3
      · exact cck_223 a q
      · exact far 3 (k := k_223) rfl rfl q
  · have hk : j = 224 ∨ j = 225 ∨ j = 226 ∨ j = 227 ∨ j = 228 ∨ j = 229 ∨ j = 230 ∨ j = 231 ∨ j = 232 ∨ j = 233 ∨ j = 234 ∨ j = 235 ∨ j = 236 ∨ j = 237 ∨ j = 238 ∨ j = 239 := by omega
    rcases hk with rfl | rfl | rfl | rfl | rfl | rfl | rfl | rfl | rfl | rfl | rfl | rfl | rfl | rfl | rfl | rfl
    · by_cases q : a < 8
      · exact cck_224 a q
      · exact far 8 (k := k_224) rfl rfl q
    · by_cases q : a < 4
      · exact cck_225 a q
      · exact far 4 (k := k_225) rfl rfl q
    · by_cases q : a < 2
      · exact cck_226 a q
      · exact far 2 (k := k_226) rfl rfl q
    · by_cases q : a < 4
      · exact cck_227 a q
      · exact far 4 (k := k_227) rfl rfl q
    · by_cases q : a < 2
      · exact cck_228 a q
      · exact far 2 (k := k_228) rfl rfl q
    · by_cases q : a < 8
      · exact cck_229 a q
      · exact far 8 (k := k_229) rfl rfl q
    · by_cases q : a < 4
      · exact cck_230 a q
      · exact far 4 (k := k_230) rfl rfl q
    · by_cases q : a < 3
      · exact cck_231 a q
      · exact far 3 (k := k_231) rfl rfl q
    · by_cases q : a < 6
      · exact cck_232 a q
      · exact far 6 (k := k_232) rfl rfl q
    · by_cases q : a < 4
      · exact cck_233 a q
      · exact far 4 (k := k_233) rfl rfl q
    · by_cases q : a < 5
      · exact cck_234 a q
      · exact far 5 (k := k_234) rfl rfl q
    · by_cases q : a < 8
      · exact cck_235 a q
      · exact far 8 (k := k_235) rfl rfl q
    · by_cases q : a < 1
      · exact cck_236 a q
      · exact far 1 (k := k_236) rfl rfl q
    · by_cases q : a < 2
      · exact cck_237 a q
      · exact far 2 (k := k_237) rfl rfl q
    · by_cases q : a < 13
      · exact cck_238 a q
      · exact far 13 (k := k_238) rfl rfl q
    · by_cases q : a < 2
      · exact cck_239 a q
      · exact far 2 (k := k_239) rfl rfl q
  · have hk : j = 240 ∨ j = 241 ∨ j = 242 ∨ j = 243 ∨ j = 244 ∨ j = 245 ∨ j = 246 ∨ j = 247 ∨ j = 248 ∨ j = 249 ∨ j = 250 ∨ j = 251 ∨ j = 252 ∨ j = 253 ∨ j = 254 ∨ j = 255 := by omega
    rcases hk with rfl | rfl | rfl | rfl | rfl | rfl | rfl | rfl | rfl | rfl | rfl | rfl | rfl | rfl | rfl | rfl
    · by_cases q : a < 19
      · exact cck_240 a q
      · exact far 19 (k := k_240) rfl rfl q
    · by_cases q : a < 2
      · exact cck_241 a q
      · exact far 2 (k := k_241) rfl rfl q
    · by_cases q : a < 2
      · exact cck_242 a q
      · exact far 2 (k := k_242) rfl rfl q
    · by_cases q : a < 6
      · exact cck_243 a q
      · exact far 6 (k := k_243) rfl rfl q
    · by_cases q : a < 6
      · exact cck_244 a q
      · exact far 6 (k := k_244) rfl rfl q
    · by_cases q : a < 7
      · exact cck_245 a q
      · exact far 7 (k := k_245) rfl rfl q
    · by_cases q : a < 2
      · exact cck_246 a q
      · exact far 2 (k := k_246) rfl rfl q
    · by_cases q : a < 9
      · exact cck_247 a q
      · exact far 9 (k := k_247) rfl rfl q
    · by_cases q : a < 3
      · exact cck_248 a q
      · exact far 3 (k := k_248) rfl rfl q
    · by_cases q : a < 3
      · exact cck_249 a q
      · exact far 3 (k := k_249) rfl rfl q
    · by_cases q : a < 6
      · exact cck_250 a q
      · exact far 6 (k := k_250) rfl rfl q
    · by_cases q : a < 4
      · exact cck_251 a q
      · exact far 4 (k := k_251) rfl rfl q
    · by_cases q : a < 5
      · exact cck_252 a q
      · exact far 5 (k := k_252) rfl rfl q
    · by_cases q : a < 3
      · exact cck_253 a q
      · exact far 3 (k := k_253) rfl rfl q
    · by_cases q : a < 4
      · exact cck_254 a q
      · exact far 4 (k := k_254) rfl rfl q
    · by_cases q : a < 4
      · exact cck_255 a q
      · exact far 4 (k := k_255) rfl rfl q
  · have hk : j = 256 ∨ j = 257 ∨ j = 258 ∨ j = 259 ∨ j = 260 ∨ j = 261 ∨ j = 262 ∨ j = 263 ∨ j = 264 ∨ j = 265 ∨ j = 266 ∨ j = 267 ∨ j = 268 ∨ j = 269 ∨ j = 270 ∨ j = 271 := by omega
    rcases hk with rfl | rfl | rfl | rfl | rfl | rfl | rfl | rfl | rfl | rfl | rfl | rfl | rfl | rfl | rfl | rfl
    · by_cases q : a < 3
      · exact cck_256 a q
      · exact far 3 (k := k_256) rfl rfl q
    · by_cases q : a < 2
      · exact cck_257 a q
      · exact far 2 (k := k_257) rfl rfl q
    · by_cases q : a < 2
      · exact cck_258 a q
      · exact far 2 (k := k_258) rfl rfl q
    · by_cases q : a < 3
      · exact cck_259 a q
      · exact far 3 (k := k_259) rfl rfl q
    · by_cases q : a < 10
      · exact cck_260 a q
      · exact far 10 (k := k_260) rfl rfl q
    · by_cases q : a < 5
      · exact cck_261 a q
      · exact far 5 (k := k_261) rfl rfl q
    · by_cases q : a < 4
      · exact cck_262 a q
      · exact far 4 (k := k_262) rfl rfl q
    · by_cases q : a < 7
      · exact cck_263 a q
      · exact far 7 (k := k_263) rfl rfl q
    · by_cases q : a < 10
      · exact cck_264 a q
      · exact far 10 (k := k_264) rfl rfl q
    · by_cases q : a < 3
      · exact cck_265 a q
      · exact far 3 (k := k_265) rfl rfl q
    · by_cases q : a < 8
      · exact cck_266 a q
      · exact far 8 (k := k_266) rfl rfl q
    · by_cases q : a < 6
      · exact cck_267 a q
      · exact far 6 (k := k_267) rfl rfl q
    · by_cases q : a < 9
      · exact cck_268 a q
      · exact far 9 (k := k_268) rfl rfl q
    · by_cases q : a < 9
      · exact cck_269 a q
      · exact far 9 (k := k_269) rfl rfl q
    · by_cases q : a < 5
      · exact cck_270 a q
      · exact far 5 (k := k_270) rfl rfl q
    · by_cases q : a < 3
      · exact cck_271 a q
      · exact far 3 (k := k_271) rfl rfl q
  · have hk : j = 272 ∨ j = 273 ∨ j = 274 ∨ j = 275 ∨ j = 276 ∨ j = 277 := by omega
    rcases hk with rfl | rfl | rfl | rfl | rfl | rfl
    · by_cases q : a < 8
      · exact cck_272 a q
      · exact far 8 (k := k_272) rfl rfl q
    · by_cases q : a < 9
      · exact cck_273 a q
      · exact far 9 (k := k_273) rfl rfl q
    · by_cases q : a < 13
      · exact cck_274 a q
      · exact far 13 (k := k_274) rfl rfl q
    · by_cases q : a < 2
      · exact cck_275 a q
      · exact far 2 (k := k_275) rfl rfl q
    · by_cases q : a < 96
      · exact cck_276 a q
      · exact far 96 (k := k_276) rfl rfl q
    · by_cases q : a < 4
      · exact cck_277 a q
      · exact far 4 (k := k_277) rfl rfl q
theorem code_ok {j pc : Nat} {ins : Instr} (h : insAt j pc = some ins) : j < 278 ∧ ichk j pc ins = true ∧ dchk j pc ins = true := by
  unfold insAt at h
  split at h
  · rename_i k hk
    have hj : j < 278 := by
      have h1 := hk
      unfold ch at h1
      split at h1
      · rename_i r hr
        have h2 := (List.getElem?_eq_some_iff.mp hr).1
        have h2 : j / 16 < 18 := h2
        by_cases hl : j / 16 < 17
        · omega
        · have e : j / 16 = 17 := by omega
          rw [e] at hr
          cases hr
          have h3 := (List.getElem?_eq_some_iff.mp h1).1
          have h3 : j % 16 < 6 := h3
          omega
      · cases h1
    refine ⟨hj, ?_⟩
    split at h
    · rename_i i hi
      subst h
      have hc := cck_all (a := pc / 16) hj
      unfold cckR at hc
      rw [hk] at hc
      simp only at hc
      unfold ch at hi
      split at hi
      · rename_i r hr
        rw [hr] at hc
        simp only at hc
        have hm : (some ins, pc % 16) ∈ r.zipIdx := by rw [List.mem_zipIdx_iff_getElem?]; exact hi
        have := List.all_eq_true.mp hc _ hm
        simp only [Bool.and_eq_true] at this
        rw [show 16 * (pc / 16) + pc % 16 = pc by omega] at this
        exact this
      · cases hi
    · cases h
  · cases h
theorem dec_ok {j pc : Nat} {ins : Instr} (h : dchk j pc ins = true) {n : Nat} (hl : lenI ins = n) (hn : n ≠ 0) : decode (bytesN j) pc = .ok (ins, n) := by
  unfold dchk at h
  split at h
  · rename_i i l hd
    simp only [Bool.and_eq_true, decide_eq_true_eq, Bool.or_eq_true] at h
    obtain ⟨rfl, h2⟩ := h
    rcases h2 with h2 | h2
    · exact absurd (hl.symm.trans (Nat.eq_of_beq_eq_true h2)) hn
    · rw [hd, Nat.eq_of_beq_eq_true h2, hl]
  · cases h
theorem dec_ex {j pc : Nat} {ins : Instr} (h : dchk j pc ins = true) : ∃ n, decode (bytesN j) pc = .ok (ins, n) := by
  unfold dchk at h
  split at h
  · rename_i i l hd
    simp only [Bool.and_eq_true, decide_eq_true_eq] at h
    exact ⟨l, by rw [hd, h.1]⟩
  · cases h
