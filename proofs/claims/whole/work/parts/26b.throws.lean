/-! THE METHOD THAT MAY THROW, ITS CATCH IN THE LAW -/
theorem at_IO : ∀ w ∈ (vx_atS "CushionCourt" 154 eIO eUp).filter goodWord, w ∈ lw_tbl := by decide +kernel
theorem at_NS : ∀ w ∈ (lnW.filter vx_no).filter goodWord, w ∈ lw_tbl := by decide +kernel
theorem an_IO : ∀ w ∈ (vx_atS "CushionCourt" 154 eIO eUp).filter (fun w => !goodWord w), w ∈ [Cond.castable eIO eIO, Cond.declares (Bundle.initS eRT), Cond.declares (Bundle.initS "java/lang/Exception"), Cond.declares (Bundle.initS Bundle.tN)] := by decide +kernel
theorem an_NS : ∀ w ∈ (lnW.filter vx_no).filter (fun w => !goodWord w), w ∈ [Cond.castable eNS eNS, Cond.declares (Bundle.initS eRT), Cond.declares (Bundle.initS "java/lang/Exception"), Cond.declares (Bundle.initS Bundle.tN)] := by decide +kernel
theorem aw_IO (w : Cond) (h : w ∈ (vx_atS "CushionCourt" 154 eIO eUp).filter goodWord) : w ∈ GWl := List.mem_filter.mpr ⟨at_IO w h, (List.mem_filter.mp h).2⟩
theorem aw_NS (w : Cond) (h : w ∈ (lnW.filter vx_no).filter goodWord) : w ∈ GWl := List.mem_filter.mpr ⟨at_NS w h, (List.mem_filter.mp h).2⟩
theorem kw_IO : Cond.classLink "CushionCourt" 150 eIO ∈ GWl := gwAt_mem (i := 1243) (by decide +kernel)
theorem kw_NS : Cond.classLink "CushionCourt" 175 eNS ∈ GWl := gwAt_mem (i := 1309) (by decide +kernel)
theorem iw_IO : Cond.initialized eIO ∈ GWl := gwAt_mem (i := 132) (by decide +kernel)
theorem iw_NS : Cond.initialized eNS ∈ GWl := gwAt_mem (i := 133) (by decide +kernel)
theorem ot_IO : ∀ w ∈ Cond.classLink "CushionCourt" 150 eIO :: Cond.initialized eIO :: vx_atS "CushionCourt" 154 eIO eUp, vx_ot w = true := by decide +kernel
theorem ot_NS : ∀ w ∈ Cond.classLink "CushionCourt" 175 eNS :: Cond.initialized eNS :: lnW.filter vx_no, vx_ot w = true := by decide +kernel
theorem lw_IO : Cond.classLink "CushionCourtLaw" 13 eIO ∈ GWl := gwAt_mem (i := 1237) (by decide +kernel)
theorem lw_NS : Cond.classLink "CushionCourtLaw" 15 eNS ∈ GWl := gwAt_mem (i := 1238) (by decide +kernel)
abbrev hhL : List (Nat × Nat × Nat × Nat) := [(0, 10, 13, 13), (0, 10, 17, 15)]
theorem cwL : Cond.codeWith (yN 275) (bytesN 275) 5 (some .int) hhL ∈ GWl := gwAt_mem (i := 1236) (by decide +kernel)
theorem swL : Cond.static (yN 275) ∈ GWl := gwAt_mem (i := 1235) (by decide +kernel)
theorem iwL : Cond.initialized "CushionCourtLaw" ∈ GWl := gwAt_mem (i := 112) (by decide +kernel)
theorem dkI {j pc n : Nat} {ins : Instr} (h : insAt j pc = some ins) (hl : lenI ins = n) (hn : n ≠ 0) : decode (bytesN j) pc = .ok (ins, n) := dec_ok (code_ok h).2.2 hl hn
section CAUSE
variable {g : GD} {l : Launch} {n : Nat} {σ : Mm} {a b : Int}
theorem World.grown {sh : Sh} {H H1 : Heap} (w : World g sh σ H) (hq : ∀ q : Nat, q < H.size → H1[q]? = H[q]?) : World g sh σ H1 := ⟨w.1.kept (fun k q hk => hq q.1 (vx_lt w.1 hk)), w.2⟩
theorem loc_entry {k : Nat} {as : List PV} (hl : catS as ≤ maxLN k) : LocOK g ((lg_sl (as.map (mkV g)) ++ List.replicate (maxLN k - (lg_sl (as.map (mkV g))).length) Slot.unset).toArray) (maxLN k) (pad (maxLN k) (lo as)) := by
  refine lv_weak (lv_entry (as.map (mkV g)) (by rw [sl_len]; exact hl)) fun q hq => ?_
  obtain ⟨v, h1, h2⟩ := mem_asl.mp hq
  have := (lo_get (g := g) as 0 (pad_get _ _ h1)).2
  rw [Nat.zero_add, ← h2] at this
  exact this
theorem recv_F {s : State} {H : Heap} (hK : va_K (gDD g) vwCl (gTy g) s) (w : World g (shF n) σ H) : ∃ cell : Cell, H[adr g 3]? = some cell ∧ cell.vm.isStatics = false ∧ s.vm.findClass "CushionCourt" = some cell.cls := by
  obtain ⟨b', e1, e2, e3, e4, e5⟩ := World.obj w (k := 3) (ci := 9) rfl
  have hoc := own_cls 9 (by decide)
  obtain ⟨q, hq⟩ : ∃ q, vwCl[9]? = some q := ⟨_, rfl⟩
  have hq1 : q.1 = "CushionCourt" := by
    rw [hq] at hoc
    exact Option.some.inj hoc
  have hrv := va_recv (q := q) hK w.1 hq e3
  rw [hq1] at hrv
  exact hrv
/-- the words of a call of a method of the class's own -/
theorem ca_words {j pc i k : Nat} (hins : insAt j pc = some (.invokevirtual i)) (hp : poolAt t_meth (ownN j) i = some k) (hk : okK k = true) (hn : ¬ (ownN j = 6 ∧ i = 194)) : (∀ w ∈ wsV (ownS (ownN j)) i (yN k).cls (yN k) (wsN k), w ∈ GWl) ∧ callOK j k = true := by
  obtain ⟨hj, hc, hd⟩ := code_ok hins
  have hk3 := hk
  unfold okK at hk3
  simp only [Bool.and_eq_true, Bool.not_eq_true'] at hk3
  have a1 := Nat.le_of_ble_eq_true hk3.1
  have a2 := Nat.ne_of_beq_eq_false hk3.2.1
  have a3 := Nat.ne_of_beq_eq_false hk3.2.2
  have hk4 : k < 1000 := by omega
  simp only [ichk, hp] at hc
  rw [if_pos hk4] at hc
  simp only [Bool.and_eq_true, Bool.not_eq_true'] at hc
  obtain ⟨⟨⟨⟨hc1, hc2⟩, hc3⟩, hc4⟩, hc5⟩ := hc
  obtain ⟨m1, m2, m3, m4, m5, m6⟩ := mchk_ok (mchk_all a1 a2 a3)
  have hns : ¬ statN k = true := by rw [hc2]; decide
  rw [if_neg hns] at m4 m6
  refine ⟨fun w hw => ?_, hc1⟩
  rcases List.mem_append.mp hw with hw | hw
  · simp only [List.mem_cons, List.not_mem_nil, or_false] at hw
    rcases hw with rfl | rfl | rfl | rfl
    · rcases link_ok hp hk4 with ⟨hn2, -⟩ | ⟨-, hlk⟩
      · exact absurd hn2 hn
      · exact hlk
    · exact m6.1
    · exact gwAt_mem hc3
    · rw [m1]; exact m3
  · exact code_GW (codeW_all a1 a2 a3) w hw
def caQ (g : GD) (n : Nat) (σ : Mm) (a b : Int) : Array Value → State → Outcome → State → Prop := va_Qi (S := Unit) (fun r _ => r = Int32.ofInt (causeV σ a b) ∧ (0 ≤ a ∧ a < gi σ 5 1) ∧ 0 ≤ b ∧ b ≤ 5) (fun _ t => World g (shF n) σ t.heap) (gA g)
def caX (g : GD) (n : Nat) (σ : Mm) (a b : Int) : String → State → State → Prop := vx_X (S := Unit) (fun _ => True) (fun E _ t => World g (shF n) σ t.heap ∧ ((E = eIO ∧ (a < 0 ∨ gi σ 5 1 ≤ a)) ∨ (E = eNS ∧ (0 ≤ a ∧ a < gi σ 5 1) ∧ (b < 0 ∨ 5 < b)))) (gA g)
set_option maxHeartbeats 4000000 in
theorem met_ca (hlt : l.stackTraces = false) (ra : in32 a) (rb : in32 b) (ha : 0 ≤ a → a < gi σ 5 1 → 0 ≤ b → b ≤ 5 → a < 10) : vx_Met l (yN 107) (wsN 107) (roomN 107) (PreK g (shF n) σ [vr 3, vi a, vi b]) (caQ g n σ a b) (caX g n σ a b) 1 6 (gA g) := by
  refine vx_ofW (cc := bytesN 107) (maxL := maxLN 107) (ret := retF (retN 107)) (by decide +kernel) rfl ?_
  intro p e s m args below meth c s₁ B hml htab hv
  obtain ⟨rfl, hctx, hw, hop⟩ := hv
  have hts : ∀ w ∈ GWl, w.before _ s = true := fun w hw => atoms_spec (ws := wsN 107) B.pre w (List.mem_cons_of_mem _ hw)
  have hown : s.vm.findClass "CushionCourt" = some m.cls := findClass_of_methodNamed B.named
  have hx := B.exec
  have hb := B.bytes
  have hlocks := B.notSynchronized
  have hret := B.returns
  have hF : FrameOK g 107 p l e (roomN 107) s m _ below meth c := ⟨hx, hb, hml, hown, hts, fun hn => (name_of_methodNamed B.named B.method).1.trans hn, hlocks, hret, ⟨rfl, hlt⟩, hctx⟩
  rw [lg_entry_eq]
  have hl : LocOK g _ (maxLN 107) [some (vr 3), some (vi a), some (vi b)] := loc_entry (g := g) (k := 107) (as := [vr 3, vi a, vi b]) (Nat.le_of_ble_eq_true rfl)
  generalize (lg_sl (List.map (mkV g) [vr 3, vi a, vi b]) ++ List.replicate (maxLN 107 - (lg_sl (List.map (mkV g) [vr 3, vi a, vi b])).length) Slot.unset).toArray = ls at hl ⊢
  show W p l e (roomN 107) s m _ below meth c s.heap [] 0 0 _ (F0 m 0 ls [])
  refine lv_aload_n (x := adr g 3) hx hb (dkI (j := 107) (pc := 0) (ins := .aload_n 0) rfl rfl (by decide)) rfl (loc_at hl (i := 0) rfl) ?_
  refine lv_iload_n (x := Int32.ofInt a) hx hb (dkI (j := 107) (pc := 1) (ins := .iload_n 1) rfl rfl (by decide)) rfl (loc_at hl (i := 1) rfl) ?_
  obtain ⟨cw1, cw2⟩ := ca_words (j := 107) (pc := 2) (i := 146) (k := 104) rfl rfl rfl (by decide)
  obtain ⟨m1, m2, m3, m4, m5, m6⟩ := mchk_ok (mchk_all (k := 104) (by decide) (by decide) (by decide))
  have hM := met_of (g := g) (l := l) (k := 104) (as := [vr 3, vi a]) (sh := shF n) (σ := σ) (P := iscQ n σ a) hlt (mchk_all (by decide) (by decide) (by decide)) (Nat.le_of_ble_eq_true rfl) (fun v hv => by
    rcases List.mem_cons.mp hv with rfl | hv
    · trivial
    · rw [List.mem_singleton.mp hv]; exact ra) (bridge_not (by decide) r_isc)
  have hrv := recv_F hctx.2.1 hw
  have hS0 : va_S (gA g) s.heap s.heap [] := va_S.rf
  refine call_go (k := 104) (g := g) (sh := shF n) (rest := []) (P := iscQ n σ a) (va_runV (C := (yN 104).cls) (As := [mkV g (vi a)]) (b := adr g 3) (Ts := GWl) ⟨hx, hb, hml, hown, hts⟩ hM (cwV 1 hts (good_GW cw1) rfl rfl rfl ⟨rfl, m5.1, m5.2, m4⟩ (call_ok cw2 rfl)) ⟨preK_blind, hrv, fun U hU hW => ⟨rfl, hctx.go hS0 hU hW, by rw [hU]; exact hw, fun q => (open_F q).elim⟩⟩ rfl rfl hl.1 rfl (lv_room (Nat.le_of_ble_eq_true rfl)) (dkI (j := 107) (pc := 2) (ins := .invokevirtual 146) rfl rfl (by decide)) ⟨Nat.le_of_ble_eq_true rfl, Nat.le_of_ble_eq_true rfl⟩) hS0 (fun r sh' σ' H1 locs1 q1 q2 q3 q4 q5 => ?_)
  obtain ⟨rfl, rfl, rfl⟩ := q1
  show W p l e (roomN 107) s m _ below meth c H1 locs1 0 0 _ (F0 m 5 ls [.int (Int32.ofInt (if 0 ≤ a ∧ a < gi σ' 5 1 then 1 else 0))])
  have hsz : ls.size = c.maxLocals := hl.1.trans hml.symm
  obtain ⟨⟨sa, x1⟩, ⟨sb, x2⟩, x3, x4, x5, x6, x7, x8, x9, x10⟩ := hctx.2.2.2.2.2.2.2.2.2.2.2.2.2
  by_cases hca : 0 ≤ a ∧ a < gi σ' 5 1
  · rw [if_pos hca]
    refine lv_if_ne (tgt := 18) hx hb (dkI (j := 107) (pc := 5) (ins := .ifCond .ne 13) rfl rfl (by decide)) (by decide) (fun _ => ?_) (fun q => absurd q (by decide))
    by_cases hbb : 0 ≤ b ∧ b ≤ 5
    · have hand : Hand g 107 p l e (roomN 107) s m (List.map (mkV g) [vr 3, vi a, vi b]).toArray below meth c (vx_MQ below (caQ g n σ' a b) (caX g n σ' a b) (List.map (mkV g) [vr 3, vi a, vi b]).toArray s 1 6 (gA g)) false (caR n σ' a b) := by
        intro r sh' σ'' H' locs' c' s' pc' ls' hQ hW' hS' hro hsz' hrn hri
        obtain ⟨rfl, hσ, rfl⟩ := hQ
        rw [hσ] at hW'
        refine W.widen (k := 1) (n := 6) hro.1 hro.2.1 (vx_ret ?_)
        exact W.iret (v := Int32.ofInt (causeV σ' a b)) hx hb hret (fun t ht _ => ⟨⟨_, (), rfl, ⟨rfl, hca, hbb⟩, by show World g (shF n) σ' t.heap; rw [ht]; exact hW'⟩, hS'.F ht⟩) hS'.2.2 hri.1
      have rL : ∀ v, some v ∈ [some (vr 3), some (vi a), some (vi b)] → rngV v := by
        intro v hv
        simp only [List.mem_cons, Option.some.injEq, List.not_mem_nil, or_false] at hv
        rcases hv with rfl | rfl | rfl
        · trivial
        · exact ra
        · exact rb
      exact bridge_not (by decide) (r_ca (n := n) (σ := σ') (a := a) (b := b) ⟨hca.1, ha hca.1 hca.2 hbb.1 hbb.2⟩ hbb) g p l e (roomN 107) s m _ below meth c _ false H1 locs1 ls ⟨hF, hand, hl, rL, fun v hv => absurd hv List.not_mem_nil, q3, q4, Nat.zero_le _, Nat.zero_le _, fun q => (open_F q).elim⟩
    · refine lv_iload_n (x := Int32.ofInt b) hx hb (dkI (j := 107) (pc := 18) (ins := .iload_n 2) rfl rfl (by decide)) rfl (loc_at hl (i := 2) rfl) ?_
      obtain ⟨ln, hdt⟩ := dec_ex (code_ok (j := 107) (pc := 19) (ins := .tableswitch 97 0 5 #[37, 47, 57, 67, 77, 87]) rfl).2.2
      refine lv_tableOut (tgt := 116) hx hb hdt (by rw [i32_to rb]; omega) (by decide) ?_
      exact nse_throw (cc := bytesN 107) (pc := 116) (sa := sb) (A := gA g) hx hb hlt hown (hts _ kw_NS) (hts _ iw_NS) x2 (vx_hat (fun w hw => hts w (aw_NS w hw)) an_NS (vx_c (va_Nw.use rfl x7) (vx_c (va_Nw.use rfl x8) (vx_c (va_Nw.use rfl x9) (vx_c (va_Nw.use rfl x10) vx_n))))) ot_NS x3 x4 q4 hsz
        (dkI (j := 107) (pc := 116) (ins := .new 175) rfl rfl (by decide)) (dkI (j := 107) (pc := 119) (ins := .dup) rfl rfl (by decide)) (dkI (j := 107) (pc := 120) (ins := .ldc 177) rfl rfl (by decide)) (dkI (j := 107) (pc := 122) (ins := .invokespecial 179) rfl rfl (by decide)) (dkI (j := 107) (pc := 125) (ins := .athrow) rfl rfl (by decide))
        (fun x hx => (htab x hx).elim) (show 5 < 6 by decide) (show 0 + 82 ≤ 82 by decide) (show 0 + 1 ≤ 1 by decide) (show 0 + 6 ≤ 6 by decide) hlocks
        (fun t _ hz hq => ⟨(), trivial, ⟨World.grown q3 hq, Or.inr ⟨rfl, hca, by omega⟩⟩, Nat.le_trans q4.1 hz, fun q h1 h2 => (hq q (Nat.lt_of_lt_of_le h1 q4.1)).trans (q4.2.1 q h1 h2)⟩) q4.2.2 (by decide) (by decide)
  · rw [if_neg hca]
    refine lv_if_ne (tgt := 18) hx hb (dkI (j := 107) (pc := 5) (ins := .ifCond .ne 13) rfl rfl (by decide)) (by decide) (fun q => absurd rfl q) (fun _ => ?_)
    exact vx_throwS (cc := bytesN 107) (pc := 8) hx hb hlt (own := "CushionCourt") (cls := eIO) (text := "no such case") (names := eUp) (ik := 150) (is := 152) (ic := 154) (sa := sa) (A := gA g) hown (by decide +kernel) (by decide +kernel) (hts _ kw_IO) (hts _ iw_IO) x1 (vx_hat (fun w hw => hts w (aw_IO w hw)) an_IO (vx_c (va_Nw.use rfl x6) (vx_c (va_Nw.use rfl x8) (vx_c (va_Nw.use rfl x9) (vx_c (va_Nw.use rfl x10) vx_n))))) ot_IO x3 x4 q4 hsz
        (dkI (j := 107) (pc := 8) (ins := .new 150) rfl rfl (by decide)) (dkI (j := 107) (pc := 11) (ins := .dup) rfl rfl (by decide)) (dkI (j := 107) (pc := 12) (ins := .ldc 152) rfl rfl (by decide)) (dkI (j := 107) (pc := 14) (ins := .invokespecial 154) rfl rfl (by decide)) (dkI (j := 107) (pc := 17) (ins := .athrow) rfl rfl (by decide))
        (fun x hx => (htab x hx).elim) (show 2 + 3 < 6 by decide) (show 0 + (13 * (2 + 1) + 43) ≤ 82 by decide) (show 0 + 1 ≤ 1 by decide) (show 0 + 6 ≤ 6 by decide) hlocks
        (fun t _ hz hq => ⟨(), trivial, ⟨World.grown q3 hq, Or.inl ⟨rfl, by omega⟩⟩, Nat.le_trans q4.1 hz, fun q h1 h2 => (hq q (Nat.lt_of_lt_of_le h1 q4.1)).trans (q4.2.1 q h1 h2)⟩) q4.2.2 (by decide) (by decide)
end CAUSE
