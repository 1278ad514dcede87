/-! THE CATCH -/
section CATCH
variable {g : GD} {l : Launch} {n : Nat} {σ : Mm} {a b : Int}
def wsL275 : List Cond := Cond.codeWith (yN 275) (bytesN 275) 5 (some .int) hhL :: GWl
abbrev lcP (n : Nat) (σ : Mm) (a b : Int) : PQ := fun r sh' σ' => sh' = shF n ∧ ((r = some (vi 1) ∧ σ' = σ ∧ (a < 0 ∨ gi σ 5 1 ≤ a)) ∨ (r = some (vi 2) ∧ σ' = σ ∧ (0 ≤ a ∧ a < gi σ 5 1) ∧ (b < 0 ∨ 5 < b)) ∨ (r = some (vi 0) ∧ σ' = sl σ 132 0 (causeV σ a b) ∧ (0 ≤ a ∧ a < gi σ 5 1) ∧ 0 ≤ b ∧ b ≤ 5))
theorem rng_ca {sh : Sh} {H : Heap} (w : World g sh σ H) : in32 (causeV σ a b) := by
  unfold causeV
  split
  all_goals exact w.2.2.2.2.2.1 _ _
/-- the end of a catch -/
theorem lc_end {p : Program} {e : Env} {Rm : Room} {s : State} {m : MethodId} {args : Array Value} {below : List Frame} {meth : Method} {c : Code} {H1 : Heap} {locs1 : List Loc} {ls : Array Slot} {L : List (Option PV)} {q9 h v : Nat} (hx : p.tables.exec = Jvm.exec) (hb : c.code = bytesN 275) (hret : meth.sig.returnType = some .int) (hlocks : meth.locks = false) (hl : LocOK g ls 5 L) (hw : World g (shF n) σ H1) (hS : va_S (gA g) s.heap H1 locs1)
    (h1 : insAt 275 h = some (.astore 4)) (h2 : insAt 275 (h + 2) = some (.iconst v)) (h3 : insAt 275 (h + 3) = some .ireturn) (hv : v < 128) (hP : lcP n σ a b (some (vi v)) (shF n) σ) :
    W p l e Rm s m args below meth c H1 locs1 1 6 (vx_MQ below (PostK g 275 (shF n) (lcP n σ a b)) (fun _ _ _ => False) args s 2 16 (gA g)) (F0 m h ls [.ref q9]) := by
  refine lv_astore (x := q9) hx hb (dkI h1 rfl (by decide)) hl (by decide) rfl fun ls' _ => ?_
  refine lv_iconst hx hb (dkI h2 rfl (by decide)) rfl ?_
  refine W.widen (k := 2) (n := 16) (by decide) (by decide) (vx_ret ?_)
  exact W.iret (v := Int32.ofInt v) hx hb hret (fun t ht _ => ⟨⟨some (vi v), shF n, σ, rfl, hP, fun u hu => (by cases hu; show -2147483648 ≤ (v : Int) ∧ (v : Int) < 2147483648; omega), by rw [ht]; exact hw, fun q => (open_F q).elim⟩, hS.F ht⟩) hS.2.2 (dkI h3 rfl (by decide))
set_option maxHeartbeats 4000000 in
theorem met_lc (hlt : l.stackTraces = false) (ra : in32 a) (rb : in32 b) (ha : 0 ≤ a → a < gi σ 5 1 → 0 ≤ b → b ≤ 5 → a < 10) : vx_Met l (yN 275) wsL275 (roomN 275) (PreK g (shF n) σ [vr 3, vi a, vi b, vr 132]) (PostK g 275 (shF n) (lcP n σ a b)) (fun _ _ _ => False) 2 16 (gA g) := by
  refine vx_ofWH (cc := bytesN 275) (maxL := 5) (ret := some .int) (hh := hhL) (by decide +kernel) rfl ?_
  intro p e s m args below meth c s₁ B hml hv
  obtain ⟨rfl, hctx, hw, hop⟩ := hv
  have hts1 := atoms_spec (ws := wsL275) B.pre
  have hts : ∀ w ∈ GWl, w.before _ s = true := fun w hw => hts1 w (List.mem_cons_of_mem _ hw)
  have htab : c.exceptionTable.toList = tableOf hhL := vx_table (x := yN 275) B (hts1 _ List.mem_cons_self)
  have hown : s.vm.findClass "CushionCourtLaw" = some m.cls := findClass_of_methodNamed B.named
  have hx := B.exec
  have hb := B.bytes
  have hlocks := B.notSynchronized
  have hret := B.returns
  have hF : FrameOK g 275 p l e (roomN 275) s m _ below meth c := ⟨hx, hb, hml, hown, hts, fun hn => (name_of_methodNamed B.named B.method).1.trans hn, hlocks, hret, ⟨rfl, hlt⟩, hctx⟩
  rw [lg_entry_eq]
  have hl : LocOK g (lg_sl (List.map (mkV g) [vr 3, vi a, vi b, vr 132]) ++ List.replicate (5 - (lg_sl (List.map (mkV g) [vr 3, vi a, vi b, vr 132])).length) Slot.unset).toArray 5 [some (vr 3), some (vi a), some (vi b), some (vr 132), none] := loc_entry (g := g) (k := 275) (as := [vr 3, vi a, vi b, vr 132]) (Nat.le_of_ble_eq_true rfl)
  generalize (lg_sl (List.map (mkV g) [vr 3, vi a, vi b, vr 132]) ++ List.replicate (5 - (lg_sl (List.map (mkV g) [vr 3, vi a, vi b, vr 132])).length) Slot.unset).toArray = ls at hl ⊢
  show W p l e (roomN 275) s m _ below meth c s.heap [] 0 0 _ (F0 m 0 ls [])
  refine lv_aload_n (x := adr g 132) hx hb (dkI (j := 275) (pc := 0) (ins := .aload_n 3) rfl rfl (by decide)) rfl (loc_at hl (i := 3) rfl) ?_
  refine lv_iconst (v := Int32.ofInt 0) hx hb (dkI (j := 275) (pc := 1) (ins := .iconst 0) rfl rfl (by decide)) rfl ?_
  refine lv_aload_n (x := adr g 3) hx hb (dkI (j := 275) (pc := 2) (ins := .aload_n 0) rfl rfl (by decide)) rfl (loc_at hl (i := 0) rfl) ?_
  refine lv_iload_n (x := Int32.ofInt a) hx hb (dkI (j := 275) (pc := 3) (ins := .iload_n 1) rfl rfl (by decide)) rfl (loc_at hl (i := 1) rfl) ?_
  refine lv_iload_n (x := Int32.ofInt b) hx hb (dkI (j := 275) (pc := 4) (ins := .iload_n 2) rfl rfl (by decide)) rfl (loc_at hl (i := 2) rfl) ?_
  obtain ⟨cw1, cw2⟩ := ca_words (j := 275) (pc := 5) (i := 7) (k := 107) rfl rfl rfl (by decide)
  obtain ⟨m1, m2, m3, m4, m5, m6⟩ := mchk_ok (mchk_all (k := 107) (by decide) (by decide) (by decide))
  have hrv := recv_F hctx.2.1 hw
  have hS0 : va_S (gA g) s.heap s.heap [] := va_S.rf
  have hM := met_ca (g := g) (l := l) (n := n) (σ := σ) hlt ra rb ha
  have hrun := vx_runV (e := e) (below := below) (meth := meth) (locs := []) (cells := 0) (slots := 0) (g := F0 m 5 ls [.int (Int32.ofInt b), .int (Int32.ofInt a), .ref (adr g 3), .int (Int32.ofInt 0), .ref (adr g 132)]) (C := (yN 107).cls) (As := [mkV g (vi a), mkV g (vi b)]) (b := adr g 3) (rest := [.int (Int32.ofInt 0), .ref (adr g 132)]) (Ts := GWl) ⟨hx, hb, hml, hown, hts⟩ hM (cwV (R := roomN 275) 2 hts (good_GW cw1) rfl rfl rfl ⟨rfl, m5.1, m5.2, m4⟩ (call_ok cw2 rfl)) ⟨preK_blind, hrv, fun U hU hW => ⟨rfl, hctx.go hS0 hU hW, by rw [hU]; exact hw, fun q => (open_F q).elim⟩⟩ rfl rfl hl.1 rfl (lv_room (Nat.le_of_ble_eq_true rfl)) (dkI (j := 275) (pc := 5) (ins := .invokevirtual 7) rfl rfl (by decide)) ⟨Nat.le_of_ble_eq_true rfl, Nat.le_of_ble_eq_true rfl⟩
  refine vx_calli hrun hS0 (fun _ _ q => q) (fun _ q => q) (fun _ _ q => q) ?_ ?_
  · intro E ce q9 u t H1 locs1 ht hal _ hB hsz hk hS1 hcell hvm hcl
    obtain ⟨hx5, hx6, hx7, -⟩ := hctx.2.2.2.2.2.2.2.2.2.2.2.2.2.2.2.2.2
    obtain ⟨hw1, hE⟩ := hB
    rw [ht] at hw1
    rcases hE with ⟨rfl, hc1⟩ | ⟨rfl, hc1, hc2⟩
    · refine vx_catch hown [] ⟨0, 10, 13, 13⟩ [⟨0, 10, 17, 15⟩] htab (fun z hz => nomatch hz) (by decide) (by decide) (hts _ lw_IO) (va_Nw.use rfl hx6) hcell hvm hcl ?_
      exact lc_end (v := 1) hx hb hret hlocks hl hw1 hS1 rfl rfl rfl (by decide) ⟨rfl, Or.inl ⟨rfl, rfl, hc1⟩⟩
    · refine vx_catch hown [⟨0, 10, 13, 13⟩] ⟨0, 10, 17, 15⟩ [] htab (fun z hz => by
        rw [List.mem_singleton.mp hz]
        exact Or.inr ⟨by decide, eIO, hts _ lw_IO, hx5⟩) (by decide) (by decide) (hts _ lw_NS) (va_Nw.use rfl hx7) hcell hvm hcl ?_
      exact lc_end (v := 2) hx hb hret hlocks hl hw1 hS1 rfl rfl rfl (by decide) ⟨rfl, Or.inr (Or.inl ⟨rfl, rfl, hc1, hc2⟩)⟩
  · intro r u t H1 locs1 ht hal hpost hB hsz hk hS1
    obtain ⟨rfl, hca, hbb⟩ := hpost
    have hw1 : World g (shF n) σ H1 := by rw [← ht]; exact hB
    have rv : in32 (causeV σ a b) := rng_ca hw1
    have hand : Hand g 275 p l e (roomN 275) s m (List.map (mkV g) [vr 3, vi a, vi b, vr 132]).toArray below meth c (vx_MQ below (PostK g 275 (shF n) (lcP n σ a b)) (fun _ _ _ => False) (List.map (mkV g) [vr 3, vi a, vi b, vr 132]).toArray s 2 16 (gA g)) false (lcR n σ (causeV σ a b)) := by
      intro r sh' σ' H' locs' c' s' pc' ls' hQ hW' hS' hro hsz' hrn hri
      obtain ⟨rfl, rfl, rfl⟩ := hQ
      refine W.widen (k := 2) (n := 16) hro.1 hro.2.1 (vx_ret ?_)
      exact W.iret (v := Int32.ofInt 0) hx hb hret (fun t ht _ => ⟨⟨some (vi 0), shF n, sl σ 132 0 (causeV σ a b), rfl, ⟨rfl, Or.inr (Or.inr ⟨rfl, rfl, hca, hbb⟩)⟩, hrn, by rw [ht]; exact hW', fun q => (open_F q).elim⟩, hS'.F ht⟩) hS'.2.2 hri.1
    have rL : ∀ v, some v ∈ [some (vr 3), some (vi a), some (vi b), some (vr 132), none] → rngV v := by
      intro v hv
      simp only [List.mem_cons, Option.some.injEq, List.not_mem_nil, or_false, reduceCtorEq] at hv
      rcases hv with rfl | rfl | rfl | rfl
      · trivial
      · exact ra
      · exact rb
      · trivial
    have rS : ∀ v, v ∈ [vi (causeV σ a b), vi 0, vr 132] → rngV v := by
      intro v hv
      simp only [List.mem_cons, List.not_mem_nil, or_false] at hv
      rcases hv with rfl | rfl | rfl
      · exact rv
      · exact ⟨by decide, by decide⟩
      · trivial
    exact bridge_not (by decide) (r_lc (n := n) (σ := σ) (a := a) (b := b) (v := causeV σ a b)) g p l e (roomN 275) s m _ below meth c _ false H1 locs1 ls ⟨hF, hand, hl, rL, rS, hw1, hS1, by decide, by decide, fun q => (open_F q).elim⟩
theorem run_of {p : Program} {e : Env} {R : Room} {s : State} {m : MethodId} {args : Array Value} {below : List Frame} {meth : Method} {c : Code} {H : Heap} {locs : List Loc} {cells slots mc ms : Nat} {f : JFrame} {rest : List Value} {Qa : State → Outcome → State → Prop} {free : Addr → Prop} (hr : vx_Run p l e R s m args below meth c H locs cells slots mc ms f rest Qa (fun _ _ _ => False) free) : va_Run p l e R s m args below meth c H locs cells slots mc ms f rest Qa free := by
  intro T hT X
  rcases hr T hT X with h | ⟨q, st₀, t, T', L, E, ce, h0, X', hL, e1, e2, hF, -⟩
  · exact h
  · exact hF.elim
end CATCH
set_option maxHeartbeats 4000000 in
theorem cause_ok : CauseOK := by
  intro j pc i L S sh c s σ Q hins hp h g p l e Rm s₀ m args below meth cd Z op H locs ls A
  have hj := cchkJ_ok hins hp
  subst hj
  have hdg : decode (bytesN 276) pc = .ok (.invokestatic i, 3) := dkI hins rfl (by decide)
  have hlk : Cond.methodLink "CushionCourtLaw" i (yN 275) ∈ GWl := by
    rcases link_ok hp (by decide) with ⟨hn, -⟩ | ⟨-, hlk⟩
    · exact absurd hn.1 (by decide)
    · exact hlk
  unfold causeW at h
  split at h
  · rename_i b a S'
    obtain ⟨⟨n, rfl⟩, ⟨h8, hc2, hs2⟩, k1, k2, k3⟩ := h
    have hr := A.room
    have wo := A.2.2.2.2.2.1
    have hS := A.2.2.2.2.2.2.1
    have hctx := A.1.2.2.2.2.2.2.2.2.2
    have hts := A.1.2.2.2.2.1
    have hlt := A.1.2.2.2.2.2.2.2.2.1.2
    have rb : in32 b := A.rS (vi b) (List.mem_cons_of_mem _ List.mem_cons_self)
    have ra : in32 a := A.rS (vi a) (List.mem_cons_of_mem _ (List.mem_cons_of_mem _ List.mem_cons_self))
    have rS' : ∀ v, v ∈ S' → rngV v := rt (rt (rt (rt A.rS)))
    have hM := met_lc (g := g) (l := l) (n := n) (σ := σ) hlt ra rb (fun q1 q2 q3 q4 => (k3 q1 q2 q3 q4).1)
    have hrun := vx_runSX (e := e) (below := below) (meth := meth) (locs := locs) (cells := c) (slots := s) (H := H) (g := F0 m pc ls ((vr 132 :: vi b :: vi a :: vr 3 :: S').map (mkV g))) (As := [mkV g (vr 3), mkV g (vi a), mkV g (vi b), mkV g (vr 132)]) (rest := S'.map (mkV g)) (Ts := GWl) (hh := hhL) ⟨A.1.1, A.1.2.1, A.1.2.2.1, A.1.2.2.2.1, hts⟩ hM (vx_cwSW (R := Rm) (own := "CushionCourtLaw") 4 hts (good_GW (fun w hw => by
        rcases List.mem_append.mp hw with hw | hw
        · simp only [List.mem_cons, List.not_mem_nil, or_false] at hw
          rcases hw with rfl | rfl | rfl
          · exact hlk
          · exact swL
          · exact iwL
        · rcases List.mem_cons.mp hw with rfl | hw
          · exact cwL
          · exact hw)) rfl rfl rfl ⟨by decide +kernel, by decide +kernel, by decide +kernel⟩ ⟨by rw [hr]; exact Nat.le_of_ble_eq_true rfl, by rw [hr]; exact Nat.le_of_ble_eq_true rfl⟩) ⟨preK_blind, fun U hU hW => ⟨rfl, hctx.go hS hU hW, by rw [hU]; exact wo, fun q => (open_F q).elim⟩⟩ rfl rfl A.2.2.1.1 rfl (lv_room (by rw [catS_map]; exact h8)) hdg ⟨by rw [hr]; exact hc2, by rw [hr]; exact hs2⟩
    refine call_go (k := 275) (g := g) (sh := shF n) (P := lcP n σ a b) (run_of hrun) hS (fun r sh' σ' H1 locs1 q1 q2 q3 q4 q5 => ?_)
    have fin : ∀ {v : Int} {σ1 : Mm}, in32 v → World g (shF n) σ1 H1 → SemX 276 (pc + 3) L (vi v :: S') (shF n) (c + 2) (s + 16) σ1 Q → W p l e Rm s₀ m args below meth cd H1 locs1 (c + 2) (s + 16) Z (F0 m (pc + 3) ls ((vi v :: S').map (mkV g))) := by
      intro v σ1 hv hw1 hx
      exact hx _ _ _ _ _ _ _ _ _ _ _ _ _ _ _ _ ⟨A.1, A.2.1, A.2.2.1, A.2.2.2.1, rc hv rS', hw1, q4, hc2, hs2, fun q => (open_F q).elim⟩
    obtain ⟨rfl, q1⟩ := q1
    rcases q1 with ⟨rfl, rfl, hc1⟩ | ⟨rfl, rfl, hc1, hcb⟩ | ⟨rfl, rfl, hc1, hcb⟩
    · exact fin (v := 1) ⟨by decide, by decide⟩ q3 (k1 hc1)
    · exact fin (v := 2) ⟨by decide, by decide⟩ q3 (k2 hc1.1 hc1.2 hcb)
    · exact fin (v := 0) ⟨by decide, by decide⟩ q3 (k3 hc1.1 hc1.2 hcb.1 hcb.2).2
  · exact h.elim
