/-! THE CLAIM OUT OF ONE WALK OF THE LAW'S BODY. Your part is whole_start (and what it stands on); all else here is the same for every law, but numbers. -/
def R_law : String := "LentQuillLaw"
def lw_P (b : Addr) (xs : List Int32) (args : Array Value) (s : State) : Prop := args = #[.ref b] ∧ s.IntsAt b xs ∧ xs.length ≤ 256 ∧ (Jvm.Cond.and given_1 narrow_1).before args s = true
def lw_Q (_ : Array Value) (s : State) (o : Outcome) (t : State) : Prop := o = .returned (some (.int 1)) ∧ Framed s o t [] 600000 7302250
def lw_Z (below : List Frame) (a : Array Value) (s : State) : State → Prop := fun t => ∃ o, t.status = .running ∧ Ended t below o ∧ lw_Q a s o t
/-- the law's own end, with 1 on the stack, nothing written that was there before, its room as the claim has it -/
theorem lw_ret {p : Program} {l : Launch} {e : Env} {s : State} {m : MethodId} {below : List Frame} {meth : Method} {c : Code} {b : Nat} (hx : p.tables.exec = Jvm.exec) (hb : c.code = code) (hr : meth.sig.returnType = ret) (hlocks : meth.locks = false) {pc : Nat} {H : Heap} {ls : Array Slot} (hdg : decode code pc = .ok (.ireturn, 1)) : W p l e room_1 s m #[Value.ref b] below meth c H [] 600000 7302250 (lw_Z below #[Value.ref b] s) (F0 m pc ls [.int 1]) := by
  intro T hT X
  obtain ⟨fs, hret, hrun, hended, hW, hframe⟩ := X.leave (v := some (.int 1)) (hlocks := hlocks) (fun h => by rw [hr] at h; cases h)
  have hmeth' : T.vm.method? m = some meth := X.method'
  refine ⟨T.setFrames fs, ?_, .returned (some (.int 1)), hrun, hended, rfl, ⟨_, rfl⟩, hW, hframe⟩
  jvm_step X.here [X.here.top, hx, hb, hdg, hmeth', hr, ret, narrow_b1]
  (try refine ⟨rfl, ?_⟩); (try refine ⟨rfl, ?_⟩)
  first | (intro acts; rw [hret _ acts rfl rfl rfl]) | rw [hret _ _ rfl rfl rfl]
  exact Steps.refl _
/-- what holds at the law's entry: the machine, the code, the tables' words (any of lw_tbl by 'hts w (by decide +kernel)'), the script of L ints xs at the cell b, what the Statement gives of the start (any of its parts by flat_of_before) -/
def lw_At (p : Program) (s : State) (m : MethodId) (meth : Method) (c : Code) (b L : Nat) (xs : Nat → Int32) : Prop :=
  p.tables.exec = Jvm.exec ∧ c.code = code ∧ meth.sig.returnType = ret ∧ c.maxLocals = 4 ∧ s.vm.findClass R_law = some m.cls ∧ (∀ w ∈ lw_tbl, w.before #[Value.ref b] s = true) ∧ va_X b L xs s s.heap ∧ b < s.heap.size ∧ meth.locks = false ∧ (Jvm.Cond.and given_1 narrow_1).before #[Value.ref b] s = true
/-! ===== the law's cases ===== -/
theorem wf_forget {S : QS} (hW : WF S) : WF (forS S) := ⟨⟨hW.1.1, hW.1.2.1, hW.1.2.2.1, fun q hq => absurd hq List.not_mem_nil⟩, hW.2⟩
section XS
variable {p : Program} {l : Launch} {e : Env} {R : Room} {s : State} {m : MethodId} {args : Array Value} {below : List Frame} {meth : Method} {c : Code} {H : Heap} {locs : List Loc} {cells slots : Nat} {Q : State → Prop}
variable {cc : ByteArray} {pc : Nat} {ls : Array Slot} {rest : List Value} {A : Nat → Prop} {H0 : Heap}
theorem xsld (hexec : p.tables.exec = Jvm.exec) (hb : c.code = cc) {b L : Nat} {xs : Nat → Int32} (hX : va_X b L xs s H0) (hbl : b < H0.size) (hbA : ¬ A b) (hS : va_S A H0 H locs) {i : Nat} (hi : i < L) (hL : L ≤ 256) (hdg : decode cc pc = .ok (.iaload, 1))
    (kk : W p l e R s m args below meth c H locs cells slots Q (F0 m (pc + 1) ls (.int (xs i) :: rest))) : W p l e R s m args below meth c H locs cells slots Q (F0 m pc ls (.int (nI i) :: .ref b :: rest)) :=
  va_sld hexec hb hX hbl hbA hS (vp_in_nI hi (by omega)) hdg (by rw [nI_clamp (by omega)]; exact kk)
end XS
set_option maxHeartbeats 4000000 in
set_option maxRecDepth 100000 in
theorem lc_letter {p : Program} {l : Launch} {e : Env} {s : State} {m : MethodId} {below : List Frame} {meth : Method} {c : Code} {G : XG} {b L k : Nat} {xs : Nat → Int32} {Q : State → Prop} {H : Heap} {locs : List Loc} {ls : Array Slot} {w : Wd} {V : Nat → Value} {A : Nat → Nat → Int32} {S : QS} {cells slots : Nat} (C0 : lw_At p s m meth c b L xs) (hG : GK G s) (hK : SK s.heap.size G s s.heap) (hi : 4 * k + 4 ≤ L) (hL : L ≤ 256) (hc : cells + 5 ≤ 600000 ∧ slots + 5 ≤ 7302250) (hI : LI G w s.heap.size S V A) (hT : sT S ≤ k) (hw : PW s.heap.size G w H) (hS : va_S (fun q => s.heap.size ≤ q) s.heap H locs) (hl : lh ls 4 [some (.ref b), some (.ref s.heap.size), some (.ref (s.heap.size + 52)), some (.int (nI (4 * k)))]) (kk : ∀ (S1 : QS) (V1 : Nat → Value) (A1 : Nat → Nat → Int32) (w1 : Wd) (H1 : Heap) (locs1 : List Loc), LI G w1 s.heap.size S1 V1 A1 → sT S1 ≤ k + 1 → PW s.heap.size G w1 H1 → va_S (fun q => s.heap.size ≤ q) s.heap H1 locs1 → W p l e room_1 s m #[Value.ref b] below meth c H1 locs1 (cells + 5) (slots + 5) Q (F0 m 776 ls [])) : W p l e room_1 s m #[Value.ref b] below meth c H locs cells slots Q (F0 m 140 ls []) := by
  obtain ⟨hx, hb, hr, hml, hown, hts0, hX, hbl, hlocks, hgv⟩ := id C0
  have hb : c.code = cL_law := hb
  have hown : s.vm.findClass RL = some m.cls := hown
  have hts : ∀ x ∈ wsL_law, x.before #[Value.ref b] s = true := fun x h => hts0 x (wsL_law_in x h)
  have hbA : ¬ (fun q : Nat => s.heap.size ≤ q) b := Nat.not_le.mpr hbl
  have hN : s.heap.size ≤ s.heap.size ∧ SK s.heap.size G s s.heap := ⟨Nat.le_refl _, hK⟩
  obtain ⟨hq, hM, hR, hW⟩ := hI
  have hLb := hq.wb
  have hx0 := hq.1
  have hm0 := hM.1
  have hpa : ∀ i, i < sn S → ∀ x ∈ sp S i, x < sn S := hW.1.1
  have hhd : ∀ q ∈ sh S, q.1 < sn S := hW.1.2.2.2
  have hbn : ∀ d, d < (sd S).length → bd (sd S) d < 2 ^ sn S := hW.1.2.2.1
  have hsT : sT S ≤ 1000 := hW.2.2.1
  have hsa : sA S ≤ 40 := hW.2.2.2
  refine xaload_n hx hb dL_law_140 hl rfl ?_
  refine xaload_n hx hb dL_law_141 hl rfl ?_
  refine xiload_n hx hb dL_law_142 hl rfl ?_
  refine lv_iconst (v := nI 1) hx hb dL_law_143 (by decide) ?_
  refine xadd hx hb dL_law_144 ?_
  refine xsld hx hb hX hbl hbA hS (by omega) hL dL_law_145 ?_
  refine xVi ⟨hx, hb, hml, hown, hts⟩ (kX11_letter l s.heap.size G w s.heap.size (s.heap.size + 72) S hq hW (by omega) (xs (4 * k + 1))) (cwV 1 hts gL_law_X11_letter rfl rfl rfl (by decide +kernel) ⟨Nat.le_of_ble_eq_true rfl, Nat.le_of_ble_eq_true rfl⟩) hG hN hw hS (ci := 11) hx0 rfl rfl hl.1 rfl (Nat.le_of_ble_eq_true rfl) dL_law_146 ⟨by show _ ≤ 600000; omega, by show _ ≤ 7302250; omega⟩ (fun r1 w1 H locs hp1 hw hS => ?_)
  obtain ⟨rfl, hq1, hO1⟩ := hp1
  have hM1 := hM.out hO1 (Or.inr (by omega))
  have hm1 := hM1.1
  refine xaload_n hx hb dL_law_149 hl rfl ?_
  refine xaload_n hx hb dL_law_150 hl rfl ?_
  refine xiload_n hx hb dL_law_151 hl rfl ?_
  refine lv_iconst (v := nI 1) hx hb dL_law_152 (by decide) ?_
  refine xadd hx hb dL_law_153 ?_
  refine xsld hx hb hX hbl hbA hS (by omega) hL dL_law_154 ?_
  refine xVi ⟨hx, hb, hml, hown, hts⟩ (kX12_letter l s.heap.size G _ (s.heap.size + 52) V A hM1 S hR hLb (xs (4 * k + 1))) (cwV 1 hts gL_law_X12_letter rfl rfl rfl (by decide +kernel) ⟨Nat.le_of_ble_eq_true rfl, Nat.le_of_ble_eq_true rfl⟩) hG hN hw hS (ci := 12) hm1 rfl rfl hl.1 rfl (Nat.le_of_ble_eq_true rfl) dL_law_155 ⟨by show _ ≤ 600000; omega, by show _ ≤ 7302250; omega⟩ (fun r2 w2 H locs hp2 hw hS => ?_)
  obtain ⟨rfl, ⟨V2, A2, hM2, hR2⟩, hO2⟩ := hp2
  refine lv_icmp_eq (tgt := 776) hx hb dL_law_158 (by decide) (fun _ => ?_) (fun q => absurd rfl q)
  refine W.widen (k := cells + 5) (n := slots + 5) (by omega) (by omega) ?_
  exact kk (o_letter S (xs (4 * k + 1))).2 V2 A2 _ _ _ ⟨(hq1.out hO2 (by omega) (by omega)), hM2, hR2, (gq_letter (xs (4 * k + 1)) hW hT).1⟩ (gq_letter (xs (4 * k + 1)) hW hT).2 hw hS
set_option maxHeartbeats 4000000 in
set_option maxRecDepth 100000 in
theorem lc_blank {p : Program} {l : Launch} {e : Env} {s : State} {m : MethodId} {below : List Frame} {meth : Method} {c : Code} {G : XG} {b L k : Nat} {xs : Nat → Int32} {Q : State → Prop} {H : Heap} {locs : List Loc} {ls : Array Slot} {w : Wd} {V : Nat → Value} {A : Nat → Nat → Int32} {S : QS} {cells slots : Nat} (C0 : lw_At p s m meth c b L xs) (hG : GK G s) (hK : SK s.heap.size G s s.heap) (hi : 4 * k + 4 ≤ L) (hL : L ≤ 256) (hc : cells + 5 ≤ 600000 ∧ slots + 5 ≤ 7302250) (hI : LI G w s.heap.size S V A) (hT : sT S ≤ k) (hw : PW s.heap.size G w H) (hS : va_S (fun q => s.heap.size ≤ q) s.heap H locs) (hl : lh ls 4 [some (.ref b), some (.ref s.heap.size), some (.ref (s.heap.size + 52)), some (.int (nI (4 * k)))]) (kk : ∀ (S1 : QS) (V1 : Nat → Value) (A1 : Nat → Nat → Int32) (w1 : Wd) (H1 : Heap) (locs1 : List Loc), LI G w1 s.heap.size S1 V1 A1 → sT S1 ≤ k + 1 → PW s.heap.size G w1 H1 → va_S (fun q => s.heap.size ≤ q) s.heap H1 locs1 → W p l e room_1 s m #[Value.ref b] below meth c H1 locs1 (cells + 5) (slots + 5) Q (F0 m 776 ls [])) : W p l e room_1 s m #[Value.ref b] below meth c H locs cells slots Q (F0 m 163 ls []) := by
  obtain ⟨hx, hb, hr, hml, hown, hts0, hX, hbl, hlocks, hgv⟩ := id C0
  have hb : c.code = cL_law := hb
  have hown : s.vm.findClass RL = some m.cls := hown
  have hts : ∀ x ∈ wsL_law, x.before #[Value.ref b] s = true := fun x h => hts0 x (wsL_law_in x h)
  have hbA : ¬ (fun q : Nat => s.heap.size ≤ q) b := Nat.not_le.mpr hbl
  have hN : s.heap.size ≤ s.heap.size ∧ SK s.heap.size G s s.heap := ⟨Nat.le_refl _, hK⟩
  obtain ⟨hq, hM, hR, hW⟩ := hI
  have hLb := hq.wb
  have hx0 := hq.1
  have hm0 := hM.1
  have hpa : ∀ i, i < sn S → ∀ x ∈ sp S i, x < sn S := hW.1.1
  have hhd : ∀ q ∈ sh S, q.1 < sn S := hW.1.2.2.2
  have hbn : ∀ d, d < (sd S).length → bd (sd S) d < 2 ^ sn S := hW.1.2.2.1
  have hsT : sT S ≤ 1000 := hW.2.2.1
  have hsa : sA S ≤ 40 := hW.2.2.2
  refine xaload_n hx hb dL_law_163 hl rfl ?_
  refine xVi ⟨hx, hb, hml, hown, hts⟩ (kX11_blank l s.heap.size G w s.heap.size (s.heap.size + 72) S hq hW (by omega)) (cwV 0 hts gL_law_X11_blank rfl rfl rfl (by decide +kernel) ⟨Nat.le_of_ble_eq_true rfl, Nat.le_of_ble_eq_true rfl⟩) hG hN hw hS (ci := 11) hx0 rfl rfl hl.1 rfl (Nat.le_of_ble_eq_true rfl) dL_law_164 ⟨by show _ ≤ 600000; omega, by show _ ≤ 7302250; omega⟩ (fun r1 w1 H locs hp1 hw hS => ?_)
  obtain ⟨rfl, hq1, hO1⟩ := hp1
  have hM1 := hM.out hO1 (Or.inr (by omega))
  have hm1 := hM1.1
  refine xaload_n hx hb dL_law_167 hl rfl ?_
  refine xVi ⟨hx, hb, hml, hown, hts⟩ (kX12_blank l s.heap.size G _ (s.heap.size + 52) V A hM1 S hR hLb) (cwV 0 hts gL_law_X12_blank rfl rfl rfl (by decide +kernel) ⟨Nat.le_of_ble_eq_true rfl, Nat.le_of_ble_eq_true rfl⟩) hG hN hw hS (ci := 12) hm1 rfl rfl hl.1 rfl (Nat.le_of_ble_eq_true rfl) dL_law_168 ⟨by show _ ≤ 600000; omega, by show _ ≤ 7302250; omega⟩ (fun r2 w2 H locs hp2 hw hS => ?_)
  obtain ⟨rfl, ⟨V2, hM2, hR2⟩, hO2⟩ := hp2
  refine lv_icmp_eq (tgt := 776) hx hb dL_law_171 (by decide) (fun _ => ?_) (fun q => absurd rfl q)
  refine W.widen (k := cells + 5) (n := slots + 5) (by omega) (by omega) ?_
  exact kk (blankS S) V2 A _ _ _ ⟨(hq1.out hO2 (by omega) (by omega)), hM2, hR2, hW⟩ (Nat.le_succ_of_le hT) hw hS
set_option maxHeartbeats 4000000 in
set_option maxRecDepth 100000 in
theorem lc_fault {p : Program} {l : Launch} {e : Env} {s : State} {m : MethodId} {below : List Frame} {meth : Method} {c : Code} {G : XG} {b L k : Nat} {xs : Nat → Int32} {Q : State → Prop} {H : Heap} {locs : List Loc} {ls : Array Slot} {w : Wd} {V : Nat → Value} {A : Nat → Nat → Int32} {S : QS} {cells slots : Nat} (C0 : lw_At p s m meth c b L xs) (hG : GK G s) (hK : SK s.heap.size G s s.heap) (hi : 4 * k + 4 ≤ L) (hL : L ≤ 256) (hc : cells + 5 ≤ 600000 ∧ slots + 5 ≤ 7302250) (hI : LI G w s.heap.size S V A) (hT : sT S ≤ k) (hw : PW s.heap.size G w H) (hS : va_S (fun q => s.heap.size ≤ q) s.heap H locs) (hl : lh ls 4 [some (.ref b), some (.ref s.heap.size), some (.ref (s.heap.size + 52)), some (.int (nI (4 * k)))]) (kk : ∀ (S1 : QS) (V1 : Nat → Value) (A1 : Nat → Nat → Int32) (w1 : Wd) (H1 : Heap) (locs1 : List Loc), LI G w1 s.heap.size S1 V1 A1 → sT S1 ≤ k + 1 → PW s.heap.size G w1 H1 → va_S (fun q => s.heap.size ≤ q) s.heap H1 locs1 → W p l e room_1 s m #[Value.ref b] below meth c H1 locs1 (cells + 5) (slots + 5) Q (F0 m 776 ls [])) : W p l e room_1 s m #[Value.ref b] below meth c H locs cells slots Q (F0 m 176 ls []) := by
  obtain ⟨hx, hb, hr, hml, hown, hts0, hX, hbl, hlocks, hgv⟩ := id C0
  have hb : c.code = cL_law := hb
  have hown : s.vm.findClass RL = some m.cls := hown
  have hts : ∀ x ∈ wsL_law, x.before #[Value.ref b] s = true := fun x h => hts0 x (wsL_law_in x h)
  have hbA : ¬ (fun q : Nat => s.heap.size ≤ q) b := Nat.not_le.mpr hbl
  have hN : s.heap.size ≤ s.heap.size ∧ SK s.heap.size G s s.heap := ⟨Nat.le_refl _, hK⟩
  obtain ⟨hq, hM, hR, hW⟩ := hI
  have hLb := hq.wb
  have hx0 := hq.1
  have hm0 := hM.1
  have hpa : ∀ i, i < sn S → ∀ x ∈ sp S i, x < sn S := hW.1.1
  have hhd : ∀ q ∈ sh S, q.1 < sn S := hW.1.2.2.2
  have hbn : ∀ d, d < (sd S).length → bd (sd S) d < 2 ^ sn S := hW.1.2.2.1
  have hsT : sT S ≤ 1000 := hW.2.2.1
  have hsa : sA S ≤ 40 := hW.2.2.2
  refine xaload_n hx hb dL_law_176 hl rfl ?_
  refine xVi ⟨hx, hb, hml, hown, hts⟩ (kX11_fault l s.heap.size G w s.heap.size (s.heap.size + 72) S hq hW (by omega)) (cwV 0 hts gL_law_X11_fault rfl rfl rfl (by decide +kernel) ⟨Nat.le_of_ble_eq_true rfl, Nat.le_of_ble_eq_true rfl⟩) hG hN hw hS (ci := 11) hx0 rfl rfl hl.1 rfl (Nat.le_of_ble_eq_true rfl) dL_law_177 ⟨by show _ ≤ 600000; omega, by show _ ≤ 7302250; omega⟩ (fun r1 w1 H locs hp1 hw hS => ?_)
  obtain ⟨rfl, rfl⟩ := hp1
  have hM1 := hM
  have hq1 := hq
  have hm1 := hM1.1
  refine xaload_n hx hb dL_law_180 hl rfl ?_
  refine xVi ⟨hx, hb, hml, hown, hts⟩ (kX12_fault l s.heap.size G _ (s.heap.size + 52) V A hM1 S hR hLb) (cwV 0 hts gL_law_X12_fault rfl rfl rfl (by decide +kernel) ⟨Nat.le_of_ble_eq_true rfl, Nat.le_of_ble_eq_true rfl⟩) hG hN hw hS (ci := 12) hm1 rfl rfl hl.1 rfl (Nat.le_of_ble_eq_true rfl) dL_law_181 ⟨by show _ ≤ 600000; omega, by show _ ≤ 7302250; omega⟩ (fun r2 w2 H locs hp2 hw hS => ?_)
  obtain ⟨rfl, ⟨V2, A2, hM2, hR2⟩, hO2⟩ := hp2
  refine lv_icmp_eq (tgt := 776) hx hb dL_law_184 (by decide) (fun _ => ?_) (fun q => absurd rfl q)
  refine W.widen (k := cells + 5) (n := slots + 5) (by omega) (by omega) ?_
  exact kk S V2 A2 _ _ _ ⟨(hq1.out hO2 (by omega) (by omega)), hM2, hR2, hW⟩ (Nat.le_succ_of_le hT) hw hS
set_option maxHeartbeats 4000000 in
set_option maxRecDepth 100000 in
theorem lc_town {p : Program} {l : Launch} {e : Env} {s : State} {m : MethodId} {below : List Frame} {meth : Method} {c : Code} {G : XG} {b L k : Nat} {xs : Nat → Int32} {Q : State → Prop} {H : Heap} {locs : List Loc} {ls : Array Slot} {w : Wd} {V : Nat → Value} {A : Nat → Nat → Int32} {S : QS} {cells slots : Nat} (C0 : lw_At p s m meth c b L xs) (hG : GK G s) (hK : SK s.heap.size G s s.heap) (hi : 4 * k + 4 ≤ L) (hL : L ≤ 256) (hc : cells + 5 ≤ 600000 ∧ slots + 5 ≤ 7302250) (hI : LI G w s.heap.size S V A) (hT : sT S ≤ k) (hw : PW s.heap.size G w H) (hS : va_S (fun q => s.heap.size ≤ q) s.heap H locs) (hl : lh ls 4 [some (.ref b), some (.ref s.heap.size), some (.ref (s.heap.size + 52)), some (.int (nI (4 * k)))]) (kk : ∀ (S1 : QS) (V1 : Nat → Value) (A1 : Nat → Nat → Int32) (w1 : Wd) (H1 : Heap) (locs1 : List Loc), LI G w1 s.heap.size S1 V1 A1 → sT S1 ≤ k + 1 → PW s.heap.size G w1 H1 → va_S (fun q => s.heap.size ≤ q) s.heap H1 locs1 → W p l e room_1 s m #[Value.ref b] below meth c H1 locs1 (cells + 5) (slots + 5) Q (F0 m 776 ls [])) : W p l e room_1 s m #[Value.ref b] below meth c H locs cells slots Q (F0 m 189 ls []) := by
  obtain ⟨hx, hb, hr, hml, hown, hts0, hX, hbl, hlocks, hgv⟩ := id C0
  have hb : c.code = cL_law := hb
  have hown : s.vm.findClass RL = some m.cls := hown
  have hts : ∀ x ∈ wsL_law, x.before #[Value.ref b] s = true := fun x h => hts0 x (wsL_law_in x h)
  have hbA : ¬ (fun q : Nat => s.heap.size ≤ q) b := Nat.not_le.mpr hbl
  have hN : s.heap.size ≤ s.heap.size ∧ SK s.heap.size G s s.heap := ⟨Nat.le_refl _, hK⟩
  obtain ⟨hq, hM, hR, hW⟩ := hI
  have hLb := hq.wb
  have hx0 := hq.1
  have hm0 := hM.1
  have hpa : ∀ i, i < sn S → ∀ x ∈ sp S i, x < sn S := hW.1.1
  have hhd : ∀ q ∈ sh S, q.1 < sn S := hW.1.2.2.2
  have hbn : ∀ d, d < (sd S).length → bd (sd S) d < 2 ^ sn S := hW.1.2.2.1
  have hsT : sT S ≤ 1000 := hW.2.2.1
  have hsa : sA S ≤ 40 := hW.2.2.2
  have hm19 : w (s.heap.size + 72 - 1) = some (eI G 6 (A 19)) := by rw [show s.heap.size + 72 - 1 = s.heap.size + 52 + 19 by omega]; exact hM.2.2.2.2.2.2.2.2.2.2.2.2.2.2.2.2.2.2.2.2
  refine xaload_n hx hb dL_law_189 hl rfl ?_
  refine xVi ⟨hx, hb, hml, hown, hts⟩ (kX11_town l s.heap.size G w s.heap.size (s.heap.size + 72) S hq hW (by omega) _ hm19) (cwV 0 hts gL_law_X11_town rfl rfl rfl (by decide +kernel) ⟨Nat.le_of_ble_eq_true rfl, Nat.le_of_ble_eq_true rfl⟩) hG hN hw hS (ci := 11) hx0 rfl rfl hl.1 rfl (Nat.le_of_ble_eq_true rfl) dL_law_190 ⟨by show _ ≤ 600000; omega, by show _ ≤ 7302250; omega⟩ (fun r1 w1 H locs hp1 hw hS => ?_)
  obtain ⟨rfl, hq1, hO1⟩ := hp1
  have hM1 := hM.outz hO1 (Or.inr (by omega)) (by omega)
  have hm1 := hM1.1
  refine xaload_n hx hb dL_law_193 hl rfl ?_
  refine xVi ⟨hx, hb, hml, hown, hts⟩ (kX12_town l s.heap.size G _ (s.heap.size + 52) V A hM1 S hR hLb) (cwV 0 hts gL_law_X12_town rfl rfl rfl (by decide +kernel) ⟨Nat.le_of_ble_eq_true rfl, Nat.le_of_ble_eq_true rfl⟩) hG hN hw hS (ci := 12) hm1 rfl rfl hl.1 rfl (Nat.le_of_ble_eq_true rfl) dL_law_194 ⟨by show _ ≤ 600000; omega, by show _ ≤ 7302250; omega⟩ (fun r2 w2 H locs hp2 hw hS => ?_)
  obtain ⟨rfl, ⟨V2, A2, hM2, hR2⟩, hO2⟩ := hp2
  refine lv_icmp_eq (tgt := 776) hx hb dL_law_197 (by decide) (fun _ => ?_) (fun q => absurd rfl q)
  refine W.widen (k := cells + 5) (n := slots + 5) (by omega) (by omega) ?_
  exact kk (o_town S).2 V2 A2 _ _ _ ⟨(hq1.out hO2 (by omega) (by omega)), hM2, hR2, (gq_town hW hT (by omega)).1⟩ (gq_town hW hT (by omega)).2 hw hS
set_option maxHeartbeats 4000000 in
set_option maxRecDepth 100000 in
theorem lc_about {p : Program} {l : Launch} {e : Env} {s : State} {m : MethodId} {below : List Frame} {meth : Method} {c : Code} {G : XG} {b L k : Nat} {xs : Nat → Int32} {Q : State → Prop} {H : Heap} {locs : List Loc} {ls : Array Slot} {w : Wd} {V : Nat → Value} {A : Nat → Nat → Int32} {S : QS} {cells slots : Nat} (C0 : lw_At p s m meth c b L xs) (hG : GK G s) (hK : SK s.heap.size G s s.heap) (hi : 4 * k + 4 ≤ L) (hL : L ≤ 256) (hc : cells + 5 ≤ 600000 ∧ slots + 5 ≤ 7302250) (hI : LI G w s.heap.size S V A) (hT : sT S ≤ k) (hw : PW s.heap.size G w H) (hS : va_S (fun q => s.heap.size ≤ q) s.heap H locs) (hl : lh ls 4 [some (.ref b), some (.ref s.heap.size), some (.ref (s.heap.size + 52)), some (.int (nI (4 * k)))]) (kk : ∀ (S1 : QS) (V1 : Nat → Value) (A1 : Nat → Nat → Int32) (w1 : Wd) (H1 : Heap) (locs1 : List Loc), LI G w1 s.heap.size S1 V1 A1 → sT S1 ≤ k + 1 → PW s.heap.size G w1 H1 → va_S (fun q => s.heap.size ≤ q) s.heap H1 locs1 → W p l e room_1 s m #[Value.ref b] below meth c H1 locs1 (cells + 5) (slots + 5) Q (F0 m 776 ls [])) : W p l e room_1 s m #[Value.ref b] below meth c H locs cells slots Q (F0 m 202 ls []) := by
  obtain ⟨hx, hb, hr, hml, hown, hts0, hX, hbl, hlocks, hgv⟩ := id C0
  have hb : c.code = cL_law := hb
  have hown : s.vm.findClass RL = some m.cls := hown
  have hts : ∀ x ∈ wsL_law, x.before #[Value.ref b] s = true := fun x h => hts0 x (wsL_law_in x h)
  have hbA : ¬ (fun q : Nat => s.heap.size ≤ q) b := Nat.not_le.mpr hbl
  have hN : s.heap.size ≤ s.heap.size ∧ SK s.heap.size G s s.heap := ⟨Nat.le_refl _, hK⟩
  obtain ⟨hq, hM, hR, hW⟩ := hI
  have hLb := hq.wb
  have hx0 := hq.1
  have hm0 := hM.1
  have hpa : ∀ i, i < sn S → ∀ x ∈ sp S i, x < sn S := hW.1.1
  have hhd : ∀ q ∈ sh S, q.1 < sn S := hW.1.2.2.2
  have hbn : ∀ d, d < (sd S).length → bd (sd S) d < 2 ^ sn S := hW.1.2.2.1
  have hsT : sT S ≤ 1000 := hW.2.2.1
  have hsa : sA S ≤ 40 := hW.2.2.2
  refine xaload_n hx hb dL_law_202 hl rfl ?_
  refine xaload_n hx hb dL_law_203 hl rfl ?_
  refine xiload_n hx hb dL_law_204 hl rfl ?_
  refine lv_iconst (v := nI 1) hx hb dL_law_205 (by decide) ?_
  refine xadd hx hb dL_law_206 ?_
  refine xsld hx hb hX hbl hbA hS (by omega) hL dL_law_207 ?_
  refine xaload_n hx hb dL_law_208 hl rfl ?_
  refine xiload_n hx hb dL_law_209 hl rfl ?_
  refine lv_iconst (v := nI 2) hx hb dL_law_210 (by decide) ?_
  refine xadd hx hb dL_law_211 ?_
  refine xsld hx hb hX hbl hbA hS (by omega) hL dL_law_212 ?_
  refine xVi ⟨hx, hb, hml, hown, hts⟩ (kX11_about l s.heap.size G w s.heap.size (s.heap.size + 72) S hq hW (by omega) (xs (4 * k + 1)) (xs (4 * k + 2))) (cwV 2 hts gL_law_X11_about rfl rfl rfl (by decide +kernel) ⟨Nat.le_of_ble_eq_true rfl, Nat.le_of_ble_eq_true rfl⟩) hG hN hw hS (ci := 11) hx0 rfl rfl hl.1 rfl (Nat.le_of_ble_eq_true rfl) dL_law_213 ⟨by show _ ≤ 600000; omega, by show _ ≤ 7302250; omega⟩ (fun r1 w1 H locs hp1 hw hS => ?_)
  obtain ⟨rfl, rfl⟩ := hp1
  have hM1 := hM
  have hq1 := hq
  have hm1 := hM1.1
  refine xaload_n hx hb dL_law_216 hl rfl ?_
  refine xaload_n hx hb dL_law_217 hl rfl ?_
  refine xiload_n hx hb dL_law_218 hl rfl ?_
  refine lv_iconst (v := nI 1) hx hb dL_law_219 (by decide) ?_
  refine xadd hx hb dL_law_220 ?_
  refine xsld hx hb hX hbl hbA hS (by omega) hL dL_law_221 ?_
  refine xaload_n hx hb dL_law_222 hl rfl ?_
  refine xiload_n hx hb dL_law_223 hl rfl ?_
  refine lv_iconst (v := nI 2) hx hb dL_law_224 (by decide) ?_
  refine xadd hx hb dL_law_225 ?_
  refine xsld hx hb hX hbl hbA hS (by omega) hL dL_law_226 ?_
  refine xVi ⟨hx, hb, hml, hown, hts⟩ (kX12_about l s.heap.size G _ (s.heap.size + 52) V A hM1 S hR hLb hpa (xs (4 * k + 1)) (xs (4 * k + 2))) (cwV 2 hts gL_law_X12_about rfl rfl rfl (by decide +kernel) ⟨Nat.le_of_ble_eq_true rfl, Nat.le_of_ble_eq_true rfl⟩) hG hN hw hS (ci := 12) hm1 rfl rfl hl.1 rfl (Nat.le_of_ble_eq_true rfl) dL_law_227 ⟨by show _ ≤ 600000; omega, by show _ ≤ 7302250; omega⟩ (fun r2 w2 H locs hp2 hw hS => ?_)
  obtain ⟨rfl, ⟨V2, A2, hM2, hR2⟩, hO2⟩ := hp2
  refine lv_icmp_eq (tgt := 776) hx hb dL_law_230 (by decide) (fun _ => ?_) (fun q => absurd rfl q)
  refine W.widen (k := cells + 5) (n := slots + 5) (by omega) (by omega) ?_
  exact kk S V2 A2 _ _ _ ⟨(hq1.out hO2 (by omega) (by omega)), hM2, hR2, hW⟩ (Nat.le_succ_of_le hT) hw hS
set_option maxHeartbeats 4000000 in
set_option maxRecDepth 100000 in
theorem lc_as {p : Program} {l : Launch} {e : Env} {s : State} {m : MethodId} {below : List Frame} {meth : Method} {c : Code} {G : XG} {b L k : Nat} {xs : Nat → Int32} {Q : State → Prop} {H : Heap} {locs : List Loc} {ls : Array Slot} {w : Wd} {V : Nat → Value} {A : Nat → Nat → Int32} {S : QS} {cells slots : Nat} (C0 : lw_At p s m meth c b L xs) (hG : GK G s) (hK : SK s.heap.size G s s.heap) (hi : 4 * k + 4 ≤ L) (hL : L ≤ 256) (hc : cells + 5 ≤ 600000 ∧ slots + 5 ≤ 7302250) (hI : LI G w s.heap.size S V A) (hT : sT S ≤ k) (hw : PW s.heap.size G w H) (hS : va_S (fun q => s.heap.size ≤ q) s.heap H locs) (hl : lh ls 4 [some (.ref b), some (.ref s.heap.size), some (.ref (s.heap.size + 52)), some (.int (nI (4 * k)))]) (kk : ∀ (S1 : QS) (V1 : Nat → Value) (A1 : Nat → Nat → Int32) (w1 : Wd) (H1 : Heap) (locs1 : List Loc), LI G w1 s.heap.size S1 V1 A1 → sT S1 ≤ k + 1 → PW s.heap.size G w1 H1 → va_S (fun q => s.heap.size ≤ q) s.heap H1 locs1 → W p l e room_1 s m #[Value.ref b] below meth c H1 locs1 (cells + 5) (slots + 5) Q (F0 m 776 ls [])) : W p l e room_1 s m #[Value.ref b] below meth c H locs cells slots Q (F0 m 235 ls []) := by
  obtain ⟨hx, hb, hr, hml, hown, hts0, hX, hbl, hlocks, hgv⟩ := id C0
  have hb : c.code = cL_law := hb
  have hown : s.vm.findClass RL = some m.cls := hown
  have hts : ∀ x ∈ wsL_law, x.before #[Value.ref b] s = true := fun x h => hts0 x (wsL_law_in x h)
  have hbA : ¬ (fun q : Nat => s.heap.size ≤ q) b := Nat.not_le.mpr hbl
  have hN : s.heap.size ≤ s.heap.size ∧ SK s.heap.size G s s.heap := ⟨Nat.le_refl _, hK⟩
  obtain ⟨hq, hM, hR, hW⟩ := hI
  have hLb := hq.wb
  have hx0 := hq.1
  have hm0 := hM.1
  have hpa : ∀ i, i < sn S → ∀ x ∈ sp S i, x < sn S := hW.1.1
  have hhd : ∀ q ∈ sh S, q.1 < sn S := hW.1.2.2.2
  have hbn : ∀ d, d < (sd S).length → bd (sd S) d < 2 ^ sn S := hW.1.2.2.1
  have hsT : sT S ≤ 1000 := hW.2.2.1
  have hsa : sA S ≤ 40 := hW.2.2.2
  refine xaload_n hx hb dL_law_235 hl rfl ?_
  refine xaload_n hx hb dL_law_236 hl rfl ?_
  refine xiload_n hx hb dL_law_237 hl rfl ?_
  refine lv_iconst (v := nI 1) hx hb dL_law_238 (by decide) ?_
  refine xadd hx hb dL_law_239 ?_
  refine xsld hx hb hX hbl hbA hS (by omega) hL dL_law_240 ?_
  refine xaload_n hx hb dL_law_241 hl rfl ?_
  refine xiload_n hx hb dL_law_242 hl rfl ?_
  refine lv_iconst (v := nI 2) hx hb dL_law_243 (by decide) ?_
  refine xadd hx hb dL_law_244 ?_
  refine xsld hx hb hX hbl hbA hS (by omega) hL dL_law_245 ?_
  refine xVi ⟨hx, hb, hml, hown, hts⟩ (kX11_as l s.heap.size G w s.heap.size (s.heap.size + 72) S hq hW (by omega) (xs (4 * k + 1)) (xs (4 * k + 2))) (cwV 2 hts gL_law_X11_as rfl rfl rfl (by decide +kernel) ⟨Nat.le_of_ble_eq_true rfl, Nat.le_of_ble_eq_true rfl⟩) hG hN hw hS (ci := 11) hx0 rfl rfl hl.1 rfl (Nat.le_of_ble_eq_true rfl) dL_law_246 ⟨by show _ ≤ 600000; omega, by show _ ≤ 7302250; omega⟩ (fun r1 w1 H locs hp1 hw hS => ?_)
  obtain ⟨rfl, rfl⟩ := hp1
  have hM1 := hM
  have hq1 := hq
  have hm1 := hM1.1
  refine xaload_n hx hb dL_law_249 hl rfl ?_
  refine xaload_n hx hb dL_law_250 hl rfl ?_
  refine xiload_n hx hb dL_law_251 hl rfl ?_
  refine lv_iconst (v := nI 1) hx hb dL_law_252 (by decide) ?_
  refine xadd hx hb dL_law_253 ?_
  refine xsld hx hb hX hbl hbA hS (by omega) hL dL_law_254 ?_
  refine xaload_n hx hb dL_law_255 hl rfl ?_
  refine xiload_n hx hb dL_law_256 hl rfl ?_
  refine lv_iconst (v := nI 2) hx hb dL_law_257 (by decide) ?_
  refine xadd hx hb dL_law_258 ?_
  refine xsld hx hb hX hbl hbA hS (by omega) hL dL_law_259 ?_
  refine xVi ⟨hx, hb, hml, hown, hts⟩ (kX12_as l s.heap.size G _ (s.heap.size + 52) V A hM1 S hR hLb (xs (4 * k + 1)) (xs (4 * k + 2))) (cwV 2 hts gL_law_X12_as rfl rfl rfl (by decide +kernel) ⟨Nat.le_of_ble_eq_true rfl, Nat.le_of_ble_eq_true rfl⟩) hG hN hw hS (ci := 12) hm1 rfl rfl hl.1 rfl (Nat.le_of_ble_eq_true rfl) dL_law_260 ⟨by show _ ≤ 600000; omega, by show _ ≤ 7302250; omega⟩ (fun r2 w2 H locs hp2 hw hS => ?_)
  obtain ⟨rfl, rfl⟩ := hp2
  refine lv_icmp_eq (tgt := 776) hx hb dL_law_263 (by decide) (fun _ => ?_) (fun q => absurd rfl q)
  refine W.widen (k := cells + 5) (n := slots + 5) (by omega) (by omega) ?_
  exact kk S V A _ _ _ ⟨hq1, hM1, hR, hW⟩ (Nat.le_succ_of_le hT) hw hS
set_option maxHeartbeats 4000000 in
set_option maxRecDepth 100000 in
theorem lc_lend {p : Program} {l : Launch} {e : Env} {s : State} {m : MethodId} {below : List Frame} {meth : Method} {c : Code} {G : XG} {b L k : Nat} {xs : Nat → Int32} {Q : State → Prop} {H : Heap} {locs : List Loc} {ls : Array Slot} {w : Wd} {V : Nat → Value} {A : Nat → Nat → Int32} {S : QS} {cells slots : Nat} (C0 : lw_At p s m meth c b L xs) (hG : GK G s) (hK : SK s.heap.size G s s.heap) (hi : 4 * k + 4 ≤ L) (hL : L ≤ 256) (hc : cells + 5 ≤ 600000 ∧ slots + 5 ≤ 7302250) (hI : LI G w s.heap.size S V A) (hT : sT S ≤ k) (hw : PW s.heap.size G w H) (hS : va_S (fun q => s.heap.size ≤ q) s.heap H locs) (hl : lh ls 4 [some (.ref b), some (.ref s.heap.size), some (.ref (s.heap.size + 52)), some (.int (nI (4 * k)))]) (kk : ∀ (S1 : QS) (V1 : Nat → Value) (A1 : Nat → Nat → Int32) (w1 : Wd) (H1 : Heap) (locs1 : List Loc), LI G w1 s.heap.size S1 V1 A1 → sT S1 ≤ k + 1 → PW s.heap.size G w1 H1 → va_S (fun q => s.heap.size ≤ q) s.heap H1 locs1 → W p l e room_1 s m #[Value.ref b] below meth c H1 locs1 (cells + 5) (slots + 5) Q (F0 m 776 ls [])) : W p l e room_1 s m #[Value.ref b] below meth c H locs cells slots Q (F0 m 268 ls []) := by
  obtain ⟨hx, hb, hr, hml, hown, hts0, hX, hbl, hlocks, hgv⟩ := id C0
  have hb : c.code = cL_law := hb
  have hown : s.vm.findClass RL = some m.cls := hown
  have hts : ∀ x ∈ wsL_law, x.before #[Value.ref b] s = true := fun x h => hts0 x (wsL_law_in x h)
  have hbA : ¬ (fun q : Nat => s.heap.size ≤ q) b := Nat.not_le.mpr hbl
  have hN : s.heap.size ≤ s.heap.size ∧ SK s.heap.size G s s.heap := ⟨Nat.le_refl _, hK⟩
  obtain ⟨hq, hM, hR, hW⟩ := hI
  have hLb := hq.wb
  have hx0 := hq.1
  have hm0 := hM.1
  have hpa : ∀ i, i < sn S → ∀ x ∈ sp S i, x < sn S := hW.1.1
  have hhd : ∀ q ∈ sh S, q.1 < sn S := hW.1.2.2.2
  have hbn : ∀ d, d < (sd S).length → bd (sd S) d < 2 ^ sn S := hW.1.2.2.1
  have hsT : sT S ≤ 1000 := hW.2.2.1
  have hsa : sA S ≤ 40 := hW.2.2.2
  refine xaload_n hx hb dL_law_268 hl rfl ?_
  refine xaload_n hx hb dL_law_269 hl rfl ?_
  refine xiload_n hx hb dL_law_270 hl rfl ?_
  refine lv_iconst (v := nI 1) hx hb dL_law_271 (by decide) ?_
  refine xadd hx hb dL_law_272 ?_
  refine xsld hx hb hX hbl hbA hS (by omega) hL dL_law_273 ?_
  refine xaload_n hx hb dL_law_274 hl rfl ?_
  refine xiload_n hx hb dL_law_275 hl rfl ?_
  refine lv_iconst (v := nI 2) hx hb dL_law_276 (by decide) ?_
  refine xadd hx hb dL_law_277 ?_
  refine xsld hx hb hX hbl hbA hS (by omega) hL dL_law_278 ?_
  refine xVi ⟨hx, hb, hml, hown, hts⟩ (kX11_lend l s.heap.size G w s.heap.size (s.heap.size + 72) S hq hW (by omega) (xs (4 * k + 1)) (xs (4 * k + 2))) (cwV 2 hts gL_law_X11_lend rfl rfl rfl (by decide +kernel) ⟨Nat.le_of_ble_eq_true rfl, Nat.le_of_ble_eq_true rfl⟩) hG hN hw hS (ci := 11) hx0 rfl rfl hl.1 rfl (Nat.le_of_ble_eq_true rfl) dL_law_279 ⟨by show _ ≤ 600000; omega, by show _ ≤ 7302250; omega⟩ (fun r1 w1 H locs hp1 hw hS => ?_)
  obtain ⟨rfl, hq1, hO1⟩ := hp1
  have hM1 := hM.out hO1 (Or.inr (by omega))
  have hm1 := hM1.1
  refine xaload_n hx hb dL_law_282 hl rfl ?_
  refine xaload_n hx hb dL_law_283 hl rfl ?_
  refine xiload_n hx hb dL_law_284 hl rfl ?_
  refine lv_iconst (v := nI 1) hx hb dL_law_285 (by decide) ?_
  refine xadd hx hb dL_law_286 ?_
  refine xsld hx hb hX hbl hbA hS (by omega) hL dL_law_287 ?_
  refine xaload_n hx hb dL_law_288 hl rfl ?_
  refine xiload_n hx hb dL_law_289 hl rfl ?_
  refine lv_iconst (v := nI 2) hx hb dL_law_290 (by decide) ?_
  refine xadd hx hb dL_law_291 ?_
  refine xsld hx hb hX hbl hbA hS (by omega) hL dL_law_292 ?_
  refine xVi ⟨hx, hb, hml, hown, hts⟩ (kX12_lend l s.heap.size G _ (s.heap.size + 52) V A hM1 S hR hLb hpa (xs (4 * k + 1)) (xs (4 * k + 2))) (cwV 2 hts gL_law_X12_lend rfl rfl rfl (by decide +kernel) ⟨Nat.le_of_ble_eq_true rfl, Nat.le_of_ble_eq_true rfl⟩) hG hN hw hS (ci := 12) hm1 rfl rfl hl.1 rfl (Nat.le_of_ble_eq_true rfl) dL_law_293 ⟨by show _ ≤ 600000; omega, by show _ ≤ 7302250; omega⟩ (fun r2 w2 H locs hp2 hw hS => ?_)
  obtain ⟨rfl, ⟨V2, A2, hM2, hR2⟩, hO2⟩ := hp2
  refine lv_icmp_eq (tgt := 776) hx hb dL_law_296 (by decide) (fun _ => ?_) (fun q => absurd rfl q)
  refine W.widen (k := cells + 5) (n := slots + 5) (by omega) (by omega) ?_
  exact kk (o_lend S (xs (4 * k + 1)) (xs (4 * k + 2))).2 V2 A2 _ _ _ ⟨(hq1.out hO2 (by omega) (by omega)), hM2, hR2, (gq_lend (xs (4 * k + 1)) (xs (4 * k + 2)) hW hT).1⟩ (gq_lend (xs (4 * k + 1)) (xs (4 * k + 2)) hW hT).2 hw hS
set_option maxHeartbeats 4000000 in
set_option maxRecDepth 100000 in
theorem lc_had {p : Program} {l : Launch} {e : Env} {s : State} {m : MethodId} {below : List Frame} {meth : Method} {c : Code} {G : XG} {b L k : Nat} {xs : Nat → Int32} {Q : State → Prop} {H : Heap} {locs : List Loc} {ls : Array Slot} {w : Wd} {V : Nat → Value} {A : Nat → Nat → Int32} {S : QS} {cells slots : Nat} (C0 : lw_At p s m meth c b L xs) (hG : GK G s) (hK : SK s.heap.size G s s.heap) (hi : 4 * k + 4 ≤ L) (hL : L ≤ 256) (hc : cells + 5 ≤ 600000 ∧ slots + 5 ≤ 7302250) (hI : LI G w s.heap.size S V A) (hT : sT S ≤ k) (hw : PW s.heap.size G w H) (hS : va_S (fun q => s.heap.size ≤ q) s.heap H locs) (hl : lh ls 4 [some (.ref b), some (.ref s.heap.size), some (.ref (s.heap.size + 52)), some (.int (nI (4 * k)))]) (kk : ∀ (S1 : QS) (V1 : Nat → Value) (A1 : Nat → Nat → Int32) (w1 : Wd) (H1 : Heap) (locs1 : List Loc), LI G w1 s.heap.size S1 V1 A1 → sT S1 ≤ k + 1 → PW s.heap.size G w1 H1 → va_S (fun q => s.heap.size ≤ q) s.heap H1 locs1 → W p l e room_1 s m #[Value.ref b] below meth c H1 locs1 (cells + 5) (slots + 5) Q (F0 m 776 ls [])) : W p l e room_1 s m #[Value.ref b] below meth c H locs cells slots Q (F0 m 301 ls []) := by
  obtain ⟨hx, hb, hr, hml, hown, hts0, hX, hbl, hlocks, hgv⟩ := id C0
  have hb : c.code = cL_law := hb
  have hown : s.vm.findClass RL = some m.cls := hown
  have hts : ∀ x ∈ wsL_law, x.before #[Value.ref b] s = true := fun x h => hts0 x (wsL_law_in x h)
  have hbA : ¬ (fun q : Nat => s.heap.size ≤ q) b := Nat.not_le.mpr hbl
  have hN : s.heap.size ≤ s.heap.size ∧ SK s.heap.size G s s.heap := ⟨Nat.le_refl _, hK⟩
  obtain ⟨hq, hM, hR, hW⟩ := hI
  have hLb := hq.wb
  have hx0 := hq.1
  have hm0 := hM.1
  have hpa : ∀ i, i < sn S → ∀ x ∈ sp S i, x < sn S := hW.1.1
  have hhd : ∀ q ∈ sh S, q.1 < sn S := hW.1.2.2.2
  have hbn : ∀ d, d < (sd S).length → bd (sd S) d < 2 ^ sn S := hW.1.2.2.1
  have hsT : sT S ≤ 1000 := hW.2.2.1
  have hsa : sA S ≤ 40 := hW.2.2.2
  refine xaload_n hx hb dL_law_301 hl rfl ?_
  refine xaload_n hx hb dL_law_302 hl rfl ?_
  refine xiload_n hx hb dL_law_303 hl rfl ?_
  refine lv_iconst (v := nI 1) hx hb dL_law_304 (by decide) ?_
  refine xadd hx hb dL_law_305 ?_
  refine xsld hx hb hX hbl hbA hS (by omega) hL dL_law_306 ?_
  refine xaload_n hx hb dL_law_307 hl rfl ?_
  refine xiload_n hx hb dL_law_308 hl rfl ?_
  refine lv_iconst (v := nI 2) hx hb dL_law_309 (by decide) ?_
  refine xadd hx hb dL_law_310 ?_
  refine xsld hx hb hX hbl hbA hS (by omega) hL dL_law_311 ?_
  refine xVi ⟨hx, hb, hml, hown, hts⟩ (kX11_had l s.heap.size G w s.heap.size (s.heap.size + 72) S hq hW (by omega) (xs (4 * k + 1)) (xs (4 * k + 2))) (cwV 2 hts gL_law_X11_had rfl rfl rfl (by decide +kernel) ⟨Nat.le_of_ble_eq_true rfl, Nat.le_of_ble_eq_true rfl⟩) hG hN hw hS (ci := 11) hx0 rfl rfl hl.1 rfl (Nat.le_of_ble_eq_true rfl) dL_law_312 ⟨by show _ ≤ 600000; omega, by show _ ≤ 7302250; omega⟩ (fun r1 w1 H locs hp1 hw hS => ?_)
  obtain ⟨rfl, rfl⟩ := hp1
  have hM1 := hM
  have hq1 := hq
  have hm1 := hM1.1
  refine xaload_n hx hb dL_law_315 hl rfl ?_
  refine xaload_n hx hb dL_law_316 hl rfl ?_
  refine xiload_n hx hb dL_law_317 hl rfl ?_
  refine lv_iconst (v := nI 1) hx hb dL_law_318 (by decide) ?_
  refine xadd hx hb dL_law_319 ?_
  refine xsld hx hb hX hbl hbA hS (by omega) hL dL_law_320 ?_
  refine xaload_n hx hb dL_law_321 hl rfl ?_
  refine xiload_n hx hb dL_law_322 hl rfl ?_
  refine lv_iconst (v := nI 2) hx hb dL_law_323 (by decide) ?_
  refine xadd hx hb dL_law_324 ?_
  refine xsld hx hb hX hbl hbA hS (by omega) hL dL_law_325 ?_
  refine xVi ⟨hx, hb, hml, hown, hts⟩ (kX12_had l s.heap.size G _ (s.heap.size + 52) V A hM1 S hR hLb (xs (4 * k + 1)) (xs (4 * k + 2))) (cwV 2 hts gL_law_X12_had rfl rfl rfl (by decide +kernel) ⟨Nat.le_of_ble_eq_true rfl, Nat.le_of_ble_eq_true rfl⟩) hG hN hw hS (ci := 12) hm1 rfl rfl hl.1 rfl (Nat.le_of_ble_eq_true rfl) dL_law_326 ⟨by show _ ≤ 600000; omega, by show _ ≤ 7302250; omega⟩ (fun r2 w2 H locs hp2 hw hS => ?_)
  obtain ⟨rfl, rfl⟩ := hp2
  refine lv_icmp_eq (tgt := 776) hx hb dL_law_329 (by decide) (fun _ => ?_) (fun q => absurd rfl q)
  refine W.widen (k := cells + 5) (n := slots + 5) (by omega) (by omega) ?_
  exact kk S V A _ _ _ ⟨hq1, hM1, hR, hW⟩ (Nat.le_succ_of_le hT) hw hS
set_option maxHeartbeats 4000000 in
set_option maxRecDepth 100000 in
theorem lc_sign {p : Program} {l : Launch} {e : Env} {s : State} {m : MethodId} {below : List Frame} {meth : Method} {c : Code} {G : XG} {b L k : Nat} {xs : Nat → Int32} {Q : State → Prop} {H : Heap} {locs : List Loc} {ls : Array Slot} {w : Wd} {V : Nat → Value} {A : Nat → Nat → Int32} {S : QS} {cells slots : Nat} (C0 : lw_At p s m meth c b L xs) (hG : GK G s) (hK : SK s.heap.size G s s.heap) (hi : 4 * k + 4 ≤ L) (hL : L ≤ 256) (hc : cells + 5 ≤ 600000 ∧ slots + 5 ≤ 7302250) (hI : LI G w s.heap.size S V A) (hT : sT S ≤ k) (hw : PW s.heap.size G w H) (hS : va_S (fun q => s.heap.size ≤ q) s.heap H locs) (hl : lh ls 4 [some (.ref b), some (.ref s.heap.size), some (.ref (s.heap.size + 52)), some (.int (nI (4 * k)))]) (kk : ∀ (S1 : QS) (V1 : Nat → Value) (A1 : Nat → Nat → Int32) (w1 : Wd) (H1 : Heap) (locs1 : List Loc), LI G w1 s.heap.size S1 V1 A1 → sT S1 ≤ k + 1 → PW s.heap.size G w1 H1 → va_S (fun q => s.heap.size ≤ q) s.heap H1 locs1 → W p l e room_1 s m #[Value.ref b] below meth c H1 locs1 (cells + 5) (slots + 5) Q (F0 m 776 ls [])) : W p l e room_1 s m #[Value.ref b] below meth c H locs cells slots Q (F0 m 334 ls []) := by
  obtain ⟨hx, hb, hr, hml, hown, hts0, hX, hbl, hlocks, hgv⟩ := id C0
  have hb : c.code = cL_law := hb
  have hown : s.vm.findClass RL = some m.cls := hown
  have hts : ∀ x ∈ wsL_law, x.before #[Value.ref b] s = true := fun x h => hts0 x (wsL_law_in x h)
  have hbA : ¬ (fun q : Nat => s.heap.size ≤ q) b := Nat.not_le.mpr hbl
  have hN : s.heap.size ≤ s.heap.size ∧ SK s.heap.size G s s.heap := ⟨Nat.le_refl _, hK⟩
  obtain ⟨hq, hM, hR, hW⟩ := hI
  have hLb := hq.wb
  have hx0 := hq.1
  have hm0 := hM.1
  have hpa : ∀ i, i < sn S → ∀ x ∈ sp S i, x < sn S := hW.1.1
  have hhd : ∀ q ∈ sh S, q.1 < sn S := hW.1.2.2.2
  have hbn : ∀ d, d < (sd S).length → bd (sd S) d < 2 ^ sn S := hW.1.2.2.1
  have hsT : sT S ≤ 1000 := hW.2.2.1
  have hsa : sA S ≤ 40 := hW.2.2.2
  refine xaload_n hx hb dL_law_334 hl rfl ?_
  refine xaload_n hx hb dL_law_335 hl rfl ?_
  refine xiload_n hx hb dL_law_336 hl rfl ?_
  refine lv_iconst (v := nI 1) hx hb dL_law_337 (by decide) ?_
  refine xadd hx hb dL_law_338 ?_
  refine xsld hx hb hX hbl hbA hS (by omega) hL dL_law_339 ?_
  refine xaload_n hx hb dL_law_340 hl rfl ?_
  refine xiload_n hx hb dL_law_341 hl rfl ?_
  refine lv_iconst (v := nI 2) hx hb dL_law_342 (by decide) ?_
  refine xadd hx hb dL_law_343 ?_
  refine xsld hx hb hX hbl hbA hS (by omega) hL dL_law_344 ?_
  refine xVi ⟨hx, hb, hml, hown, hts⟩ (kX11_sign l s.heap.size G w s.heap.size (s.heap.size + 72) S hq hW (by omega) (xs (4 * k + 1)) (xs (4 * k + 2))) (cwV 2 hts gL_law_X11_sign rfl rfl rfl (by decide +kernel) ⟨Nat.le_of_ble_eq_true rfl, Nat.le_of_ble_eq_true rfl⟩) hG hN hw hS (ci := 11) hx0 rfl rfl hl.1 rfl (Nat.le_of_ble_eq_true rfl) dL_law_345 ⟨by show _ ≤ 600000; omega, by show _ ≤ 7302250; omega⟩ (fun r1 w1 H locs hp1 hw hS => ?_)
  obtain ⟨rfl, hq1, hO1⟩ := hp1
  have hM1 := hM.out hO1 (Or.inr (by omega))
  have hm1 := hM1.1
  refine xaload_n hx hb dL_law_348 hl rfl ?_
  refine xaload_n hx hb dL_law_349 hl rfl ?_
  refine xiload_n hx hb dL_law_350 hl rfl ?_
  refine lv_iconst (v := nI 1) hx hb dL_law_351 (by decide) ?_
  refine xadd hx hb dL_law_352 ?_
  refine xsld hx hb hX hbl hbA hS (by omega) hL dL_law_353 ?_
  refine xaload_n hx hb dL_law_354 hl rfl ?_
  refine xiload_n hx hb dL_law_355 hl rfl ?_
  refine lv_iconst (v := nI 2) hx hb dL_law_356 (by decide) ?_
  refine xadd hx hb dL_law_357 ?_
  refine xsld hx hb hX hbl hbA hS (by omega) hL dL_law_358 ?_
  refine xVi ⟨hx, hb, hml, hown, hts⟩ (kX12_sign l s.heap.size G _ (s.heap.size + 52) V A hM1 S hR hLb hpa (xs (4 * k + 1)) (xs (4 * k + 2))) (cwV 2 hts gL_law_X12_sign rfl rfl rfl (by decide +kernel) ⟨Nat.le_of_ble_eq_true rfl, Nat.le_of_ble_eq_true rfl⟩) hG hN hw hS (ci := 12) hm1 rfl rfl hl.1 rfl (Nat.le_of_ble_eq_true rfl) dL_law_359 ⟨by show _ ≤ 600000; omega, by show _ ≤ 7302250; omega⟩ (fun r2 w2 H locs hp2 hw hS => ?_)
  obtain ⟨rfl, ⟨V2, A2, hM2, hR2⟩, hO2⟩ := hp2
  refine lv_icmp_eq (tgt := 776) hx hb dL_law_362 (by decide) (fun _ => ?_) (fun q => absurd rfl q)
  refine W.widen (k := cells + 5) (n := slots + 5) (by omega) (by omega) ?_
  exact kk (o_sign S (xs (4 * k + 1)) (xs (4 * k + 2))).2 V2 A2 _ _ _ ⟨(hq1.out hO2 (by omega) (by omega)), hM2, hR2, (gq_sign (xs (4 * k + 1)) (xs (4 * k + 2)) hW hT).1⟩ (gq_sign (xs (4 * k + 1)) (xs (4 * k + 2)) hW hT).2 hw hS
set_option maxHeartbeats 4000000 in
set_option maxRecDepth 100000 in
theorem lc_deed {p : Program} {l : Launch} {e : Env} {s : State} {m : MethodId} {below : List Frame} {meth : Method} {c : Code} {G : XG} {b L k : Nat} {xs : Nat → Int32} {Q : State → Prop} {H : Heap} {locs : List Loc} {ls : Array Slot} {w : Wd} {V : Nat → Value} {A : Nat → Nat → Int32} {S : QS} {cells slots : Nat} (C0 : lw_At p s m meth c b L xs) (hG : GK G s) (hK : SK s.heap.size G s s.heap) (hi : 4 * k + 4 ≤ L) (hL : L ≤ 256) (hc : cells + 5 ≤ 600000 ∧ slots + 5 ≤ 7302250) (hI : LI G w s.heap.size S V A) (hT : sT S ≤ k) (hw : PW s.heap.size G w H) (hS : va_S (fun q => s.heap.size ≤ q) s.heap H locs) (hl : lh ls 4 [some (.ref b), some (.ref s.heap.size), some (.ref (s.heap.size + 52)), some (.int (nI (4 * k)))]) (kk : ∀ (S1 : QS) (V1 : Nat → Value) (A1 : Nat → Nat → Int32) (w1 : Wd) (H1 : Heap) (locs1 : List Loc), LI G w1 s.heap.size S1 V1 A1 → sT S1 ≤ k + 1 → PW s.heap.size G w1 H1 → va_S (fun q => s.heap.size ≤ q) s.heap H1 locs1 → W p l e room_1 s m #[Value.ref b] below meth c H1 locs1 (cells + 5) (slots + 5) Q (F0 m 776 ls [])) : W p l e room_1 s m #[Value.ref b] below meth c H locs cells slots Q (F0 m 367 ls []) := by
  obtain ⟨hx, hb, hr, hml, hown, hts0, hX, hbl, hlocks, hgv⟩ := id C0
  have hb : c.code = cL_law := hb
  have hown : s.vm.findClass RL = some m.cls := hown
  have hts : ∀ x ∈ wsL_law, x.before #[Value.ref b] s = true := fun x h => hts0 x (wsL_law_in x h)
  have hbA : ¬ (fun q : Nat => s.heap.size ≤ q) b := Nat.not_le.mpr hbl
  have hN : s.heap.size ≤ s.heap.size ∧ SK s.heap.size G s s.heap := ⟨Nat.le_refl _, hK⟩
  obtain ⟨hq, hM, hR, hW⟩ := hI
  have hLb := hq.wb
  have hx0 := hq.1
  have hm0 := hM.1
  have hpa : ∀ i, i < sn S → ∀ x ∈ sp S i, x < sn S := hW.1.1
  have hhd : ∀ q ∈ sh S, q.1 < sn S := hW.1.2.2.2
  have hbn : ∀ d, d < (sd S).length → bd (sd S) d < 2 ^ sn S := hW.1.2.2.1
  have hsT : sT S ≤ 1000 := hW.2.2.1
  have hsa : sA S ≤ 40 := hW.2.2.2
  refine xaload_n hx hb dL_law_367 hl rfl ?_
  refine xaload_n hx hb dL_law_368 hl rfl ?_
  refine xiload_n hx hb dL_law_369 hl rfl ?_
  refine lv_iconst (v := nI 1) hx hb dL_law_370 (by decide) ?_
  refine xadd hx hb dL_law_371 ?_
  refine xsld hx hb hX hbl hbA hS (by omega) hL dL_law_372 ?_
  refine xaload_n hx hb dL_law_373 hl rfl ?_
  refine xiload_n hx hb dL_law_374 hl rfl ?_
  refine lv_iconst (v := nI 2) hx hb dL_law_375 (by decide) ?_
  refine xadd hx hb dL_law_376 ?_
  refine xsld hx hb hX hbl hbA hS (by omega) hL dL_law_377 ?_
  refine xVi ⟨hx, hb, hml, hown, hts⟩ (kX11_deed l s.heap.size G w s.heap.size (s.heap.size + 72) S hq hW (by omega) (xs (4 * k + 1)) (xs (4 * k + 2))) (cwV 2 hts gL_law_X11_deed rfl rfl rfl (by decide +kernel) ⟨Nat.le_of_ble_eq_true rfl, Nat.le_of_ble_eq_true rfl⟩) hG hN hw hS (ci := 11) hx0 rfl rfl hl.1 rfl (Nat.le_of_ble_eq_true rfl) dL_law_378 ⟨by show _ ≤ 600000; omega, by show _ ≤ 7302250; omega⟩ (fun r1 w1 H locs hp1 hw hS => ?_)
  obtain ⟨rfl, rfl⟩ := hp1
  have hM1 := hM
  have hq1 := hq
  have hm1 := hM1.1
  refine xaload_n hx hb dL_law_381 hl rfl ?_
  refine xaload_n hx hb dL_law_382 hl rfl ?_
  refine xiload_n hx hb dL_law_383 hl rfl ?_
  refine lv_iconst (v := nI 1) hx hb dL_law_384 (by decide) ?_
  refine xadd hx hb dL_law_385 ?_
  refine xsld hx hb hX hbl hbA hS (by omega) hL dL_law_386 ?_
  refine xaload_n hx hb dL_law_387 hl rfl ?_
  refine xiload_n hx hb dL_law_388 hl rfl ?_
  refine lv_iconst (v := nI 2) hx hb dL_law_389 (by decide) ?_
  refine xadd hx hb dL_law_390 ?_
  refine xsld hx hb hX hbl hbA hS (by omega) hL dL_law_391 ?_
  refine xVi ⟨hx, hb, hml, hown, hts⟩ (kX12_deed l s.heap.size G _ (s.heap.size + 52) V A hM1 S hR hLb (xs (4 * k + 1)) (xs (4 * k + 2))) (cwV 2 hts gL_law_X12_deed rfl rfl rfl (by decide +kernel) ⟨Nat.le_of_ble_eq_true rfl, Nat.le_of_ble_eq_true rfl⟩) hG hN hw hS (ci := 12) hm1 rfl rfl hl.1 rfl (Nat.le_of_ble_eq_true rfl) dL_law_392 ⟨by show _ ≤ 600000; omega, by show _ ≤ 7302250; omega⟩ (fun r2 w2 H locs hp2 hw hS => ?_)
  obtain ⟨rfl, rfl⟩ := hp2
  refine lv_icmp_eq (tgt := 776) hx hb dL_law_395 (by decide) (fun _ => ?_) (fun q => absurd rfl q)
  refine W.widen (k := cells + 5) (n := slots + 5) (by omega) (by omega) ?_
  exact kk S V A _ _ _ ⟨hq1, hM1, hR, hW⟩ (Nat.le_succ_of_le hT) hw hS
set_option maxHeartbeats 4000000 in
set_option maxRecDepth 100000 in
theorem lc_free {p : Program} {l : Launch} {e : Env} {s : State} {m : MethodId} {below : List Frame} {meth : Method} {c : Code} {G : XG} {b L k : Nat} {xs : Nat → Int32} {Q : State → Prop} {H : Heap} {locs : List Loc} {ls : Array Slot} {w : Wd} {V : Nat → Value} {A : Nat → Nat → Int32} {S : QS} {cells slots : Nat} (C0 : lw_At p s m meth c b L xs) (hG : GK G s) (hK : SK s.heap.size G s s.heap) (hi : 4 * k + 4 ≤ L) (hL : L ≤ 256) (hc : cells + 5 ≤ 600000 ∧ slots + 5 ≤ 7302250) (hI : LI G w s.heap.size S V A) (hT : sT S ≤ k) (hw : PW s.heap.size G w H) (hS : va_S (fun q => s.heap.size ≤ q) s.heap H locs) (hl : lh ls 4 [some (.ref b), some (.ref s.heap.size), some (.ref (s.heap.size + 52)), some (.int (nI (4 * k)))]) (kk : ∀ (S1 : QS) (V1 : Nat → Value) (A1 : Nat → Nat → Int32) (w1 : Wd) (H1 : Heap) (locs1 : List Loc), LI G w1 s.heap.size S1 V1 A1 → sT S1 ≤ k + 1 → PW s.heap.size G w1 H1 → va_S (fun q => s.heap.size ≤ q) s.heap H1 locs1 → W p l e room_1 s m #[Value.ref b] below meth c H1 locs1 (cells + 5) (slots + 5) Q (F0 m 776 ls [])) : W p l e room_1 s m #[Value.ref b] below meth c H locs cells slots Q (F0 m 400 ls []) := by
  obtain ⟨hx, hb, hr, hml, hown, hts0, hX, hbl, hlocks, hgv⟩ := id C0
  have hb : c.code = cL_law := hb
  have hown : s.vm.findClass RL = some m.cls := hown
  have hts : ∀ x ∈ wsL_law, x.before #[Value.ref b] s = true := fun x h => hts0 x (wsL_law_in x h)
  have hbA : ¬ (fun q : Nat => s.heap.size ≤ q) b := Nat.not_le.mpr hbl
  have hN : s.heap.size ≤ s.heap.size ∧ SK s.heap.size G s s.heap := ⟨Nat.le_refl _, hK⟩
  obtain ⟨hq, hM, hR, hW⟩ := hI
  have hLb := hq.wb
  have hx0 := hq.1
  have hm0 := hM.1
  have hpa : ∀ i, i < sn S → ∀ x ∈ sp S i, x < sn S := hW.1.1
  have hhd : ∀ q ∈ sh S, q.1 < sn S := hW.1.2.2.2
  have hbn : ∀ d, d < (sd S).length → bd (sd S) d < 2 ^ sn S := hW.1.2.2.1
  have hsT : sT S ≤ 1000 := hW.2.2.1
  have hsa : sA S ≤ 40 := hW.2.2.2
  refine xaload_n hx hb dL_law_400 hl rfl ?_
  refine xaload_n hx hb dL_law_401 hl rfl ?_
  refine xiload_n hx hb dL_law_402 hl rfl ?_
  refine lv_iconst (v := nI 1) hx hb dL_law_403 (by decide) ?_
  refine xadd hx hb dL_law_404 ?_
  refine xsld hx hb hX hbl hbA hS (by omega) hL dL_law_405 ?_
  refine xaload_n hx hb dL_law_406 hl rfl ?_
  refine xiload_n hx hb dL_law_407 hl rfl ?_
  refine lv_iconst (v := nI 2) hx hb dL_law_408 (by decide) ?_
  refine xadd hx hb dL_law_409 ?_
  refine xsld hx hb hX hbl hbA hS (by omega) hL dL_law_410 ?_
  refine xVi ⟨hx, hb, hml, hown, hts⟩ (kX11_free l s.heap.size G w s.heap.size (s.heap.size + 72) S hq hW (by omega) (xs (4 * k + 1)) (xs (4 * k + 2))) (cwV 2 hts gL_law_X11_free rfl rfl rfl (by decide +kernel) ⟨Nat.le_of_ble_eq_true rfl, Nat.le_of_ble_eq_true rfl⟩) hG hN hw hS (ci := 11) hx0 rfl rfl hl.1 rfl (Nat.le_of_ble_eq_true rfl) dL_law_411 ⟨by show _ ≤ 600000; omega, by show _ ≤ 7302250; omega⟩ (fun r1 w1 H locs hp1 hw hS => ?_)
  obtain ⟨rfl, hq1, hO1⟩ := hp1
  have hM1 := hM.out hO1 (Or.inr (by omega))
  have hm1 := hM1.1
  refine xaload_n hx hb dL_law_414 hl rfl ?_
  refine xaload_n hx hb dL_law_415 hl rfl ?_
  refine xiload_n hx hb dL_law_416 hl rfl ?_
  refine lv_iconst (v := nI 1) hx hb dL_law_417 (by decide) ?_
  refine xadd hx hb dL_law_418 ?_
  refine xsld hx hb hX hbl hbA hS (by omega) hL dL_law_419 ?_
  refine xaload_n hx hb dL_law_420 hl rfl ?_
  refine xiload_n hx hb dL_law_421 hl rfl ?_
  refine lv_iconst (v := nI 2) hx hb dL_law_422 (by decide) ?_
  refine xadd hx hb dL_law_423 ?_
  refine xsld hx hb hX hbl hbA hS (by omega) hL dL_law_424 ?_
  refine xVi ⟨hx, hb, hml, hown, hts⟩ (kX12_free l s.heap.size G _ (s.heap.size + 52) V A hM1 S hR hLb (xs (4 * k + 1)) (xs (4 * k + 2))) (cwV 2 hts gL_law_X12_free rfl rfl rfl (by decide +kernel) ⟨Nat.le_of_ble_eq_true rfl, Nat.le_of_ble_eq_true rfl⟩) hG hN hw hS (ci := 12) hm1 rfl rfl hl.1 rfl (Nat.le_of_ble_eq_true rfl) dL_law_425 ⟨by show _ ≤ 600000; omega, by show _ ≤ 7302250; omega⟩ (fun r2 w2 H locs hp2 hw hS => ?_)
  obtain ⟨rfl, ⟨V2, A2, hM2, hR2⟩, hO2⟩ := hp2
  refine lv_icmp_eq (tgt := 776) hx hb dL_law_428 (by decide) (fun _ => ?_) (fun q => absurd rfl q)
  refine W.widen (k := cells + 5) (n := slots + 5) (by omega) (by omega) ?_
  exact kk (o_free S (xs (4 * k + 1)) (xs (4 * k + 2))).2 V2 A2 _ _ _ ⟨(hq1.out hO2 (by omega) (by omega)), hM2, hR2, (gq_free (xs (4 * k + 1)) (xs (4 * k + 2)) hW hT).1⟩ (gq_free (xs (4 * k + 1)) (xs (4 * k + 2)) hW hT).2 hw hS
set_option maxHeartbeats 4000000 in
set_option maxRecDepth 100000 in
theorem lc_owes {p : Program} {l : Launch} {e : Env} {s : State} {m : MethodId} {below : List Frame} {meth : Method} {c : Code} {G : XG} {b L k : Nat} {xs : Nat → Int32} {Q : State → Prop} {H : Heap} {locs : List Loc} {ls : Array Slot} {w : Wd} {V : Nat → Value} {A : Nat → Nat → Int32} {S : QS} {cells slots : Nat} (C0 : lw_At p s m meth c b L xs) (hG : GK G s) (hK : SK s.heap.size G s s.heap) (hi : 4 * k + 4 ≤ L) (hL : L ≤ 256) (hc : cells + 5 ≤ 600000 ∧ slots + 5 ≤ 7302250) (hI : LI G w s.heap.size S V A) (hT : sT S ≤ k) (hw : PW s.heap.size G w H) (hS : va_S (fun q => s.heap.size ≤ q) s.heap H locs) (hl : lh ls 4 [some (.ref b), some (.ref s.heap.size), some (.ref (s.heap.size + 52)), some (.int (nI (4 * k)))]) (kk : ∀ (S1 : QS) (V1 : Nat → Value) (A1 : Nat → Nat → Int32) (w1 : Wd) (H1 : Heap) (locs1 : List Loc), LI G w1 s.heap.size S1 V1 A1 → sT S1 ≤ k + 1 → PW s.heap.size G w1 H1 → va_S (fun q => s.heap.size ≤ q) s.heap H1 locs1 → W p l e room_1 s m #[Value.ref b] below meth c H1 locs1 (cells + 5) (slots + 5) Q (F0 m 776 ls [])) : W p l e room_1 s m #[Value.ref b] below meth c H locs cells slots Q (F0 m 433 ls []) := by
  obtain ⟨hx, hb, hr, hml, hown, hts0, hX, hbl, hlocks, hgv⟩ := id C0
  have hb : c.code = cL_law := hb
  have hown : s.vm.findClass RL = some m.cls := hown
  have hts : ∀ x ∈ wsL_law, x.before #[Value.ref b] s = true := fun x h => hts0 x (wsL_law_in x h)
  have hbA : ¬ (fun q : Nat => s.heap.size ≤ q) b := Nat.not_le.mpr hbl
  have hN : s.heap.size ≤ s.heap.size ∧ SK s.heap.size G s s.heap := ⟨Nat.le_refl _, hK⟩
  obtain ⟨hq, hM, hR, hW⟩ := hI
  have hLb := hq.wb
  have hx0 := hq.1
  have hm0 := hM.1
  have hpa : ∀ i, i < sn S → ∀ x ∈ sp S i, x < sn S := hW.1.1
  have hhd : ∀ q ∈ sh S, q.1 < sn S := hW.1.2.2.2
  have hbn : ∀ d, d < (sd S).length → bd (sd S) d < 2 ^ sn S := hW.1.2.2.1
  have hsT : sT S ≤ 1000 := hW.2.2.1
  have hsa : sA S ≤ 40 := hW.2.2.2
  refine xaload_n hx hb dL_law_433 hl rfl ?_
  refine xaload_n hx hb dL_law_434 hl rfl ?_
  refine xiload_n hx hb dL_law_435 hl rfl ?_
  refine lv_iconst (v := nI 1) hx hb dL_law_436 (by decide) ?_
  refine xadd hx hb dL_law_437 ?_
  refine xsld hx hb hX hbl hbA hS (by omega) hL dL_law_438 ?_
  refine xaload_n hx hb dL_law_439 hl rfl ?_
  refine xiload_n hx hb dL_law_440 hl rfl ?_
  refine lv_iconst (v := nI 2) hx hb dL_law_441 (by decide) ?_
  refine xadd hx hb dL_law_442 ?_
  refine xsld hx hb hX hbl hbA hS (by omega) hL dL_law_443 ?_
  refine xVi ⟨hx, hb, hml, hown, hts⟩ (kX11_owes l s.heap.size G w s.heap.size (s.heap.size + 72) S hq hW (by omega) (xs (4 * k + 1)) (xs (4 * k + 2))) (cwV 2 hts gL_law_X11_owes rfl rfl rfl (by decide +kernel) ⟨Nat.le_of_ble_eq_true rfl, Nat.le_of_ble_eq_true rfl⟩) hG hN hw hS (ci := 11) hx0 rfl rfl hl.1 rfl (Nat.le_of_ble_eq_true rfl) dL_law_444 ⟨by show _ ≤ 600000; omega, by show _ ≤ 7302250; omega⟩ (fun r1 w1 H locs hp1 hw hS => ?_)
  obtain ⟨rfl, rfl⟩ := hp1
  have hM1 := hM
  have hq1 := hq
  have hm1 := hM1.1
  refine xaload_n hx hb dL_law_447 hl rfl ?_
  refine xaload_n hx hb dL_law_448 hl rfl ?_
  refine xiload_n hx hb dL_law_449 hl rfl ?_
  refine lv_iconst (v := nI 1) hx hb dL_law_450 (by decide) ?_
  refine xadd hx hb dL_law_451 ?_
  refine xsld hx hb hX hbl hbA hS (by omega) hL dL_law_452 ?_
  refine xaload_n hx hb dL_law_453 hl rfl ?_
  refine xiload_n hx hb dL_law_454 hl rfl ?_
  refine lv_iconst (v := nI 2) hx hb dL_law_455 (by decide) ?_
  refine xadd hx hb dL_law_456 ?_
  refine xsld hx hb hX hbl hbA hS (by omega) hL dL_law_457 ?_
  refine xVi ⟨hx, hb, hml, hown, hts⟩ (kX12_owes l s.heap.size G _ (s.heap.size + 52) V A hM1 S hR hLb (xs (4 * k + 1)) (xs (4 * k + 2))) (cwV 2 hts gL_law_X12_owes rfl rfl rfl (by decide +kernel) ⟨Nat.le_of_ble_eq_true rfl, Nat.le_of_ble_eq_true rfl⟩) hG hN hw hS (ci := 12) hm1 rfl rfl hl.1 rfl (Nat.le_of_ble_eq_true rfl) dL_law_458 ⟨by show _ ≤ 600000; omega, by show _ ≤ 7302250; omega⟩ (fun r2 w2 H locs hp2 hw hS => ?_)
  obtain ⟨rfl, rfl⟩ := hp2
  refine lv_icmp_eq (tgt := 776) hx hb dL_law_461 (by decide) (fun _ => ?_) (fun q => absurd rfl q)
  refine W.widen (k := cells + 5) (n := slots + 5) (by omega) (by omega) ?_
  exact kk S V A _ _ _ ⟨hq1, hM1, hR, hW⟩ (Nat.le_succ_of_le hT) hw hS
