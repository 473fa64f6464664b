theorem sign_cs (y : Int32) : (∃ k, 1 ≤ k ∧ k ≤ 9 ∧ y = nI k) ∨ (wiB y (nI 1) (nI 9) = false ∧ ∀ (S : QS) (i : Nat), i < sn S → i < 2 ^ 31 → o_sign S (nI i) y = (-102, S)) := by
  rcases inR_or y 10 with ⟨k, h1, h31, rfl⟩ | h
  · rcases Nat.eq_zero_or_pos k with q | q
    · subst q
      exact Or.inr ⟨by decide, fun S i hi h31 => sign_0 hi h31 rfl⟩
    · exact Or.inl ⟨k, q, by omega, rfl⟩
  · refine Or.inr ⟨?_, fun S i hi h31 => by rw [o_sign, onR_in hi h31, onR_out h]⟩
    rw [wiB_ab (by omega) (by omega)]
    exact decide_eq_false (fun z => h ⟨by have := z.1; omega, by have := z.2; omega⟩)
def imgS (S : QS) : QS := (S.1, S.2.1, S.2.2.1, S.2.2.2.1, some (sB S), S.2.2.2.2.2)
def askS (S : QS) : QS := (S.1, S.2.1, S.2.2.1, S.2.2.2.1, S.2.2.2.2.1, S.2.2.2.2.2.1, sA S + 1)
theorem img_n {S : QS} (h : sn S = 0) : o_image S = (-103, S) := if_pos h
theorem img_y {S : QS} (h : ¬ sn S = 0) : o_image S = (nI (lentN (sB S) (sn S)), imgS S) := if_neg h
theorem rm_asks {S : QS} {V : Nat → Value} {A : Nat → Nat → Int32} (hR : RM S V A) : RM (askS S) (vu V 13 (.int (nI (sA S + 1)))) A := by
  obtain ⟨ht, hn, hlm, hdn, hhn, has, hpl, hkw, hRB, hpg, b, kt, h26, h27, hkt, hk1, hk2⟩ := hR
  exact ⟨ht, hn, hlm, hdn, hhn, vu_eq _ _ _, hpl, hkw, hRB, hpg, b, kt, h26, h27, hkt, hk1, hk2⟩
theorem rm_forget {S : QS} {V : Nat → Value} {A : Nat → Nat → Int32} (hR : RM S V A) : RM (forS S) (vu V 10 (.int (nI 0))) A := by
  obtain ⟨ht, hn, hlm, hdn, hhn, has, hpl, hkw, hRB, hpg, b, kt, h26, h27, hkt, hk1, hk2⟩ := hR
  exact ⟨ht, hn, hlm, hdn, vu_eq _ _ _, has, hpl, hkw, ⟨hRB.1, hRB.2.1, fun k hk => absurd hk (Nat.not_lt_zero k)⟩, hpg, b, kt, h26, h27, hkt, hk1, hk2⟩
theorem rm_hear {S : QS} {V : Nat → Value} {A : Nat → Nat → Int32} {i : Nat} {v : Bool} (hR : RM S V A) : RM (stB S ((sB S).1, sd S, sh S ++ [(i, v)])) (vu V 10 (.int (nI ((sh S).length + 1)))) (va_up (va_up A 7 (upd (A 7) (sh S).length (nI i))) 8 (upd (A 8) (sh S).length (bI v))) := by
  obtain ⟨ht, hn, hlm, hdn, hhn, has, hpl, hkw, hRB, hpg, b, kt, h26, h27, hkt, hk1, hk2⟩ := hR
  refine ⟨ht, hn, hlm, hdn, (vu_eq _ _ _).trans (by show _ = Value.int (nI (sh S ++ [(i, v)]).length); rw [List.length_append]; rfl), has, hpl, hkw, ⟨hRB.1, hRB.2.1, fun k hk => ?_⟩, hpg, b, kt, h26, h27, hkt, hk1, hk2⟩
  have hk : k < (sh S ++ [(i, v)]).length := hk
  rw [List.length_append, List.length_singleton] at hk
  show va_up (va_up A 7 _) 8 _ 7 k = nI ((sh S ++ [(i, v)]).getD k (0, false)).1 ∧ va_up (va_up A 7 _) 8 _ 8 k = bI ((sh S ++ [(i, v)]).getD k (0, false)).2
  rw [vup_ne _ _ (by omega : (7 : Nat) ≠ 8), vup_eq, vup_eq]
  by_cases q : k = (sh S).length
  · rw [q, upd_at, upd_at, List.getD_eq_getElem?_getD, List.getElem?_append_right (Nat.le_refl _), Nat.sub_self]
    exact ⟨rfl, rfl⟩
  · rw [upd_no q, upd_no q, List.getD_eq_getElem?_getD, List.getElem?_append_left (by omega), ← List.getD_eq_getElem?_getD]
    exact hRB.2.2 k (by show k < (sh S).length; omega)
theorem rm_sign {S : QS} {V : Nat → Value} {A : Nat → Nat → Int32} {k c : Nat} (hR : RM S V A) : RM (stB S ((sB S).1, sd S ++ [(k, c)], sh S)) (vu V 7 (.int (nI ((sd S).length + 1)))) (va_up (va_up A 5 (upd (A 5) (sd S).length (nI k))) 6 (upd (A 6) (sd S).length (nI c))) := by
  obtain ⟨ht, hn, hlm, hdn, hhn, has, hpl, hkw, hRB, hpg, b, kt, h26, h27, hkt, hk1, hk2⟩ := hR
  refine ⟨ht, hn, hlm, (vu_eq _ _ _).trans (by show _ = Value.int (nI (sd S ++ [(k, c)]).length); rw [List.length_append]; rfl), hhn, has, hpl, hkw, ⟨hRB.1, fun d hd => ?_, hRB.2.2⟩, hpg, b, kt, h26, h27, hkt, hk1, hk2⟩
  have hd : d < (sd S ++ [(k, c)]).length := hd
  rw [List.length_append, List.length_singleton] at hd
  show va_up (va_up A 5 _) 6 _ 5 d = nI (dbt (sd S ++ [(k, c)]) d) ∧ va_up (va_up A 5 _) 6 _ 6 d = nI (bd (sd S ++ [(k, c)]) d)
  unfold dbt bd
  rw [vup_ne _ _ (by omega : (5 : Nat) ≠ 6), vup_eq, vup_eq]
  by_cases q : d = (sd S).length
  · rw [q, upd_at, upd_at, List.getD_eq_getElem?_getD, List.getElem?_append_right (Nat.le_refl _), Nat.sub_self]
    exact ⟨rfl, rfl⟩
  · rw [upd_no q, upd_no q, List.getD_eq_getElem?_getD, List.getElem?_append_left (by omega), ← List.getD_eq_getElem?_getD]
    exact hRB.2.1 d (by show d < (sd S).length; omega)
theorem rm_free {S : QS} {V : Nat → Value} {A : Nat → Nat → Int32} {i c : Nat} (hR : RM S V A) (hi : i < (sd S).length) : RM (stB S ((sB S).1, (sd S).set i (dbt (sd S) i, c), sh S)) V (va_up A 6 (upd (A 6) i (nI c))) := by
  obtain ⟨ht, hn, hlm, hdn, hhn, has, hpl, hkw, hRB, hpg, b, kt, h26, h27, hkt, hk1, hk2⟩ := hR
  refine ⟨ht, hn, hlm, hdn.trans (by show _ = Value.int (nI ((sd S).set i (dbt (sd S) i, c)).length); rw [List.length_set]), hhn, has, hpl, hkw, ⟨hRB.1, fun d hd => ?_, hRB.2.2⟩, hpg, b, kt, h26, h27, hkt, hk1, hk2⟩
  have hd : d < ((sd S).set i (dbt (sd S) i, c)).length := hd
  rw [List.length_set] at hd
  show va_up A 6 _ 5 d = nI (dbt ((sd S).set i (dbt (sd S) i, c)) d) ∧ va_up A 6 _ 6 d = nI (bd ((sd S).set i (dbt (sd S) i, c)) d)
  rw [(dbt_set hi).1, (dbt_set hi).2, vup_ne _ _ (by omega : (5 : Nat) ≠ 6), vup_eq]
  have h9 := hRB.2.1 d (by show d < (sd S).length; omega)
  by_cases q : d = i
  · rw [q, upd_at, if_pos rfl, if_pos rfl]
    rw [q] at h9
    exact ⟨h9.1, rfl⟩
  · rw [upd_no q, if_neg q, if_neg q]
    exact h9
def Ki (A A1 : Nat → Nat → Int32) (a b c : Nat) : Prop := (∀ k, k < 14 → A1 k = A k) ∧ (∀ j, j < a → A1 14 j = A 3 j) ∧ (∀ j, j < b → A1 15 j = A 4 j) ∧ ∀ j, j < c → A1 16 j = A 5 j ∧ A1 17 j = A 6 j ∧ A1 18 j = A 7 j ∧ A1 19 j = A 8 j
theorem Ki.rf {A : Nat → Nat → Int32} : Ki A A 0 0 0 := ⟨fun _ _ => rfl, fun j hj => absurd hj (Nat.not_lt_zero j), fun j hj => absurd hj (Nat.not_lt_zero j), fun j hj => absurd hj (Nat.not_lt_zero j)⟩
theorem Ki.s1 {A A1 : Nat → Nat → Int32} {a b c : Nat} (h : Ki A A1 a b c) : Ki A (va_up A1 14 (upd (A1 14) a (A1 3 a))) (a + 1) b c := by
  obtain ⟨h0, h1, h2, h3⟩ := h
  refine ⟨fun k hk => by rw [vup_ne _ _ (by omega)]; exact h0 k hk, fun j hj => ?_, fun j hj => by rw [vup_ne _ _ (by omega)]; exact h2 j hj, fun j hj => by rw [vup_ne _ _ (by omega), vup_ne _ _ (by omega), vup_ne _ _ (by omega), vup_ne _ _ (by omega)]; exact h3 j hj⟩
  rw [vup_eq]
  by_cases q : j = a
  · rw [q, upd_at, h0 3 (by omega)]
  · rw [upd_no q]; exact h1 j (by omega)
theorem Ki.s2 {A A1 : Nat → Nat → Int32} {a b c : Nat} (h : Ki A A1 a b c) : Ki A (va_up A1 15 (upd (A1 15) b (A1 4 b))) a (b + 1) c := by
  obtain ⟨h0, h1, h2, h3⟩ := h
  refine ⟨fun k hk => by rw [vup_ne _ _ (by omega)]; exact h0 k hk, fun j hj => by rw [vup_ne _ _ (by omega)]; exact h1 j hj, fun j hj => ?_, fun j hj => by rw [vup_ne _ _ (by omega), vup_ne _ _ (by omega), vup_ne _ _ (by omega), vup_ne _ _ (by omega)]; exact h3 j hj⟩
  rw [vup_eq]
  by_cases q : j = b
  · rw [q, upd_at, h0 4 (by omega)]
  · rw [upd_no q]; exact h2 j (by omega)
theorem Ki.s3 {A A1 : Nat → Nat → Int32} {a b c : Nat} (h : Ki A A1 a b c) : Ki A (va_up (va_up (va_up (va_up A1 16 (upd (A1 16) c (A1 5 c))) 17 (upd (A1 17) c (A1 6 c))) 18 (upd (A1 18) c (A1 7 c))) 19 (upd (A1 19) c (A1 8 c))) a b (c + 1) := by
  obtain ⟨h0, h1, h2, h3⟩ := h
  refine ⟨fun k hk => by rw [vup_ne _ _ (by omega), vup_ne _ _ (by omega), vup_ne _ _ (by omega), vup_ne _ _ (by omega)]; exact h0 k hk, fun j hj => by rw [vup_ne _ _ (by omega), vup_ne _ _ (by omega), vup_ne _ _ (by omega), vup_ne _ _ (by omega)]; exact h1 j hj, fun j hj => by rw [vup_ne _ _ (by omega), vup_ne _ _ (by omega), vup_ne _ _ (by omega), vup_ne _ _ (by omega)]; exact h2 j hj, fun j hj => ?_⟩
  rw [vup_ne _ _ (by omega : (16 : Nat) ≠ 19), vup_ne _ _ (by omega : (16 : Nat) ≠ 18), vup_ne _ _ (by omega : (16 : Nat) ≠ 17), vup_eq, vup_ne _ _ (by omega : (17 : Nat) ≠ 19), vup_ne _ _ (by omega : (17 : Nat) ≠ 18), vup_eq, vup_ne _ _ (by omega : (18 : Nat) ≠ 19), vup_eq, vup_eq]
  by_cases q : j = c
  · rw [q, upd_at, upd_at, upd_at, upd_at, h0 5 (by omega), h0 6 (by omega), h0 7 (by omega), h0 8 (by omega)]; exact ⟨rfl, rfl, rfl, rfl⟩
  · rw [upd_no q, upd_no q, upd_no q, upd_no q]; exact h3 j (by omega)
def Kr (A A1 : Nat → Nat → Int32) (a b c : Nat) : Prop := (∀ k, (k < 3 ∨ 8 < k) → A1 k = A k) ∧ (∀ j, j < a → A1 3 j = A 14 j) ∧ (∀ j, j < b → A1 4 j = A 15 j) ∧ ∀ j, j < c → A1 5 j = A 16 j ∧ A1 6 j = A 17 j ∧ A1 7 j = A 18 j ∧ A1 8 j = A 19 j
theorem Kr.rf {A : Nat → Nat → Int32} : Kr A A 0 0 0 := ⟨fun _ _ => rfl, fun j hj => absurd hj (Nat.not_lt_zero j), fun j hj => absurd hj (Nat.not_lt_zero j), fun j hj => absurd hj (Nat.not_lt_zero j)⟩
theorem Kr.s1 {A A1 : Nat → Nat → Int32} {a b c : Nat} (h : Kr A A1 a b c) : Kr A (va_up A1 3 (upd (A1 3) a (A1 14 a))) (a + 1) b c := by
  obtain ⟨h0, h1, h2, h3⟩ := h
  refine ⟨fun k hk => by rw [vup_ne _ _ (by omega)]; exact h0 k hk, fun j hj => ?_, fun j hj => by rw [vup_ne _ _ (by omega)]; exact h2 j hj, fun j hj => by rw [vup_ne _ _ (by omega), vup_ne _ _ (by omega), vup_ne _ _ (by omega), vup_ne _ _ (by omega)]; exact h3 j hj⟩
  rw [vup_eq]
  by_cases q : j = a
  · rw [q, upd_at, h0 14 (by omega)]
  · rw [upd_no q]; exact h1 j (by omega)
theorem Kr.s2 {A A1 : Nat → Nat → Int32} {a b c : Nat} (h : Kr A A1 a b c) : Kr A (va_up A1 4 (upd (A1 4) b (A1 15 b))) a (b + 1) c := by
  obtain ⟨h0, h1, h2, h3⟩ := h
  refine ⟨fun k hk => by rw [vup_ne _ _ (by omega)]; exact h0 k hk, fun j hj => by rw [vup_ne _ _ (by omega)]; exact h1 j hj, fun j hj => ?_, fun j hj => by rw [vup_ne _ _ (by omega), vup_ne _ _ (by omega), vup_ne _ _ (by omega), vup_ne _ _ (by omega)]; exact h3 j hj⟩
  rw [vup_eq]
  by_cases q : j = b
  · rw [q, upd_at, h0 15 (by omega)]
  · rw [upd_no q]; exact h2 j (by omega)
theorem Kr.s3 {A A1 : Nat → Nat → Int32} {a b c : Nat} (h : Kr A A1 a b c) : Kr A (va_up (va_up (va_up (va_up A1 5 (upd (A1 5) c (A1 16 c))) 6 (upd (A1 6) c (A1 17 c))) 7 (upd (A1 7) c (A1 18 c))) 8 (upd (A1 8) c (A1 19 c))) a b (c + 1) := by
  obtain ⟨h0, h1, h2, h3⟩ := h
  refine ⟨fun k hk => by rw [vup_ne _ _ (by omega), vup_ne _ _ (by omega), vup_ne _ _ (by omega), vup_ne _ _ (by omega)]; exact h0 k hk, fun j hj => by rw [vup_ne _ _ (by omega), vup_ne _ _ (by omega), vup_ne _ _ (by omega), vup_ne _ _ (by omega)]; exact h1 j hj, fun j hj => by rw [vup_ne _ _ (by omega), vup_ne _ _ (by omega), vup_ne _ _ (by omega), vup_ne _ _ (by omega)]; exact h2 j hj, fun j hj => ?_⟩
  rw [vup_ne _ _ (by omega : (5 : Nat) ≠ 8), vup_ne _ _ (by omega : (5 : Nat) ≠ 7), vup_ne _ _ (by omega : (5 : Nat) ≠ 6), vup_eq, vup_ne _ _ (by omega : (6 : Nat) ≠ 8), vup_ne _ _ (by omega : (6 : Nat) ≠ 7), vup_eq, vup_ne _ _ (by omega : (7 : Nat) ≠ 8), vup_eq, vup_eq]
  by_cases q : j = c
  · rw [q, upd_at, upd_at, upd_at, upd_at, h0 16 (by omega), h0 17 (by omega), h0 18 (by omega), h0 19 (by omega)]; exact ⟨rfl, rfl, rfl, rfl⟩
  · rw [upd_no q, upd_no q, upd_no q, upd_no q]; exact h3 j (by omega)
theorem rb_cp {n : Nat} {B : Bk} {a3 a4 a5 a6 a7 a8 b3 b4 b5 b6 b7 b8 : Nat → Int32} (hn5 : n ≤ 5) (hp : ∀ i, i < n → (B.1 i).length ≤ 41) (hd : B.2.1.length ≤ 6) (hh : B.2.2.length ≤ 6) (h : RB n B a3 a4 a5 a6 a7 a8) (h3 : ∀ j, j < 205 → b3 j = a3 j) (h4 : ∀ j, j < 5 → b4 j = a4 j) (h5 : ∀ j, j < 6 → b5 j = a5 j ∧ b6 j = a6 j ∧ b7 j = a7 j ∧ b8 j = a8 j) : RB n B b3 b4 b5 b6 b7 b8 := by
  refine ⟨fun i hi => ⟨(h4 i (by omega)).trans (h.1 i hi).1, fun k hk => ?_⟩, fun d hd2 => ⟨(h5 d (by omega)).1.trans (h.2.1 d hd2).1, (h5 d (by omega)).2.1.trans (h.2.1 d hd2).2⟩, fun k hk => ⟨(h5 k (by omega)).2.2.1.trans (h.2.2 k hk).1, (h5 k (by omega)).2.2.2.trans (h.2.2 k hk).2⟩⟩
  have h41 := hp i hi
  exact (h3 _ (by omega)).trans ((h.1 i hi).2 k hk)
theorem rm_image {S : QS} {V : Nat → Value} {A : Nat → Nat → Int32} {A1 : Nat → Nat → Int32} (hR : RM S V A) (hL : WB S) (hK : Ki A A1 205 5 6) : RM (imgS S) (vu (vu (vu (vu V 26 (.int (nI 1))) 27 (.int (nI (sT S)))) 28 (.int (nI (sd S).length))) 29 (.int (nI (sh S).length))) A1 := by
  obtain ⟨ht, hn, hlm, hdn, hhn, has, hpl, hkw, hRB, hpg, b, kt, h26, h27, hkt, hk1, hk2⟩ := hR
  obtain ⟨hn5, hl5, hkd, hsp, hd6, hdw, hh6, hg18, hgr, hIm⟩ := hL
  obtain ⟨h0, h1, h2, h3⟩ := hK
  refine ⟨ht, hn, hlm, hdn, hhn, has, hpl, fun i hi => ?_, ?_, fun i hi => ?_, true, sT S, rfl, rfl, Nat.le_refl _, fun _ _ => ⟨sB S, rfl⟩, fun B hB => ?_⟩
  · rw [h0 1 (by omega), h0 2 (by omega)]; exact hkw i hi
  · rw [h0 3 (by omega), h0 4 (by omega), h0 5 (by omega), h0 6 (by omega), h0 7 (by omega), h0 8 (by omega)]; exact hRB
  · rw [h0 9 (by omega)]; exact hpg i hi
  · have e : sB S = B := Option.some.inj hB
    subst e
    exact ⟨rfl, rfl, rfl, rfl, rb_cp hn5 (fun i hi => (hsp i hi).2) hd6 hh6 hRB h1 h2 h3⟩
theorem wb_image {S : QS} (hL : WB S) : WB (imgS S) := by
  obtain ⟨hn5, hl5, hkd, hsp, hd6, hdw, hh6, hg18, hgr, hIm⟩ := hL
  refine ⟨hn5, hl5, hkd, hsp, hd6, hdw, hh6, hg18, hgr, fun B hB => ?_⟩
  have e : sB S = B := Option.some.inj hB
  subst e
  exact ⟨hsp, hd6, hh6⟩
theorem rm_restore {S : QS} {V : Nat → Value} {A : Nat → Nat → Int32} {A1 : Nat → Nat → Int32} {B : Bk} (hR : RM S V A) (hL : WB S) (hB : sI S = some B) (hK : Kr A A1 205 5 6) : RM (stB S B) (vu (vu V 7 (.int (nI B.2.1.length))) 10 (.int (nI B.2.2.length))) A1 := by
  obtain ⟨ht, hn, hlm, hdn, hhn, has, hpl, hkw, hRB, hpg, b, kt, h26, h27, hkt, hk1, hk2⟩ := hR
  obtain ⟨hn5, hl5, hkd, hsp, hd6, hdw, hh6, hg18, hgr, hIm⟩ := hL
  obtain ⟨h0, h1, h2, h3⟩ := hK
  obtain ⟨i1, i2, i3⟩ := hIm B hB
  obtain ⟨q1, q2, q3, q4, q5⟩ := hk2 B hB
  refine ⟨ht, hn, hlm, rfl, rfl, has, hpl, fun i hi => ?_, rb_cp hn5 (fun i hi => (i1 i hi).2) i2 i3 q5 h1 h2 h3, fun i hi => ?_, b, kt, h26, h27, hkt, hk1, fun B2 hB2 => ?_⟩
  · rw [h0 1 (by omega), h0 2 (by omega)]; exact hkw i hi
  · rw [h0 9 (by omega)]; exact hpg i hi
  · rw [h0 14 (by omega), h0 15 (by omega), h0 16 (by omega), h0 17 (by omega), h0 18 (by omega), h0 19 (by omega)]; exact hk2 B2 hB2
set_option maxHeartbeats 4000000 in
set_option maxRecDepth 100000 in
theorem kX12_sign (l : Launch) (N0 : Nat) (G : XG) (w : Wd) (M0 : Nat) (V : Nat → Value) (A : Nat → Nat → Int32) (hM : MW G w M0 V A) (S : QS) (hR : RM S V A) (hL : WB S) (hpa : ∀ i, i < sn S → ∀ x ∈ sp S i, x < sn S) (x y : Int32) : XM l yX12_sign wsX12_sign (rmD 4) N0 G [.ref M0, .int x, .int y] w vI (fun r w1 => (o_sign S x y).1 = r ∧ (∃ V1 A1, MW G w1 M0 V1 A1 ∧ RM ((o_sign S x y).2) V1 A1) ∧ Out w w1 M0 (M0 + 20)) 0 0 := by
  refine XM.of (cc := cX12_sign) (maxL := 4) (ret := (some .int)) (by decide) rfl (Nat.le_of_ble_eq_true rfl) ?_
  intro p e s m below meth c hx hb hr hlk hin0 hml hown hts hN hw hG hS ls hl
  have hown : s.vm.findClass RX12 = some m.cls := hown
  have hiX12 : ∀ x ∈ u_ws RX12 TX12 37, x ∈ wsX12_sign := by decide +kernel
  have hlnk0 := hts (.fieldLink RX12 103 "LentQuillModel" "deeds" "I") (by decide +kernel)
  have hlnk1 := hts (.fieldLink RX12 22 "LentQuillModel" "debtOf" "[I") (by decide +kernel)
  have hlnk2 := hts (.fieldLink RX12 25 "LentQuillModel" "boundOf" "[I") (by decide +kernel)
  have hl : lh ls 4 [some (.ref M0), some (.int x), some (.int y), none] := hl
  obtain ⟨hm0, ⟨hv3, hv4, hv5, hv6, hv8, hv9, hv11, hv12, hv15, hv18, hv19, hv20, hv24, hv30, hv31, hv32, hv33, hv34, hv35⟩, ha1, ha2, ha3, ha4, ha5, ha6, ha7, ha8, ha9, ha10, ha11, ha12, ha13, ha14, ha15, ha16, ha17, ha18, ha19⟩ := id hM
  obtain ⟨ht, hn, hlm, hdn, hhn, has, hpl, hkw, hRB, hpg, hkp⟩ := id hR
  obtain ⟨hn5, hl5, hkd, hsp, hd6, hdw, hh6, hg18, hgr, hIm⟩ := id hL
  rcases inR_or x (sn S) with ⟨i, hi, hi31, rfl⟩ | hx1 <;> rcases sign_cs y with ⟨k, hk1, hk9, rfl⟩ | ⟨hy1, hy2⟩
  · skip
    have hb32 := bnd32 (lim := sL S) (P := sP S) (hpa i hi) hn5
    refine xaload_n hx hb dX12_sign_0 hl rfl ?_
    refine xiload_n hx hb dX12_sign_1 hl rfl ?_
    refine xVi ⟨hx, hb, hml, hown, hts⟩ (kX12_isOne l N0 G _ _ V A hM S hR hL _) (cwV 1 hts gX12_sign_X12_isOne rfl rfl rfl (by decide +kernel) ⟨Nat.le_of_ble_eq_true rfl, Nat.le_of_ble_eq_true rfl⟩) hG hN hw hS (ci := 12) (by repeat first | assumption | exact wu_eq _ _ _ | refine wu_ne (by omega) ?_) rfl rfl hl.1 rfl (Nat.le_of_ble_eq_true rfl) dX12_sign_2 ⟨Nat.le_of_ble_eq_true rfl, Nat.le_of_ble_eq_true rfl⟩ (fun r2 w2 H locs hp2 hw hS => ?_)
    obtain ⟨rfl, rfl⟩ := hp2
    refine xtop (y := bI true) (congrArg bI (decide_eq_true (inR_nI hi (by omega)))) ?_
    first | refine xifb_ne (tgt := 11) hx hb dX12_sign_5 (by decide) (fun c5 => ?_) (fun c5 => ?_) | refine xif_ne (tgt := 11) hx hb dX12_sign_5 (by decide) (by omega) (fun c5 => ?_) (fun c5 => ?_) | refine lv_if_ne (tgt := 11) hx hb dX12_sign_5 (by decide) (fun c5 => ?_) (fun c5 => ?_)
    · skip
      refine xiload_n hx hb dX12_sign_11 hl rfl ?_
      refine lv_iconst (v := nI 1) hx hb dX12_sign_12 (by decide) ?_
      refine lv_bipush (v := nI 9) hx hb dX12_sign_13 (by decide) ?_
      refine xSi ⟨hx, hb, hml, hown, hts⟩ (kX12_within l N0 G _ _ _ _) (va_cwS 3 hts gX12_sign_X12_within rfl rfl rfl (by decide +kernel) ⟨Nat.le_of_ble_eq_true rfl, Nat.le_of_ble_eq_true rfl⟩) hG hN hw hS rfl hl.1 rfl (Nat.le_of_ble_eq_true rfl) dX12_sign_15 ⟨Nat.le_of_ble_eq_true rfl, Nat.le_of_ble_eq_true rfl⟩ (fun r15 w15 H locs hp15 hw hS => ?_)
      obtain ⟨rfl, rfl⟩ := hp15
      refine xtop (y := bI true) (congrArg bI (wiB_y (by omega) (by omega) (by omega))) ?_
      first | refine xifb_ne (tgt := 24) hx hb dX12_sign_18 (by decide) (fun c18 => ?_) (fun c18 => ?_) | refine xif_ne (tgt := 24) hx hb dX12_sign_18 (by decide) (by omega) (fun c18 => ?_) (fun c18 => ?_) | refine lv_if_ne (tgt := 24) hx hb dX12_sign_18 (by decide) (fun c18 => ?_) (fun c18 => ?_)
      · skip
        refine xaload_n hx hb dX12_sign_24 hl rfl ?_
        refine xiload_n hx hb dX12_sign_25 hl rfl ?_
        refine xVi ⟨hx, hb, hml, hown, hts⟩ (kX12_boundNow l N0 G _ _ V A hM S hR hL i hi (hpa i hi)) (cwV 1 hts gX12_sign_X12_boundNow rfl rfl rfl (by decide +kernel) ⟨Nat.le_of_ble_eq_true rfl, Nat.le_of_ble_eq_true rfl⟩) hG hN hw hS (ci := 12) (by repeat first | assumption | exact wu_eq _ _ _ | refine wu_ne (by omega) ?_) rfl rfl hl.1 rfl (Nat.le_of_ble_eq_true rfl) dX12_sign_26 ⟨Nat.le_of_ble_eq_true rfl, Nat.le_of_ble_eq_true rfl⟩ (fun r26 w26 H locs hp26 hw hS => ?_)
        obtain ⟨rfl, A1, hM1, hN1, hO1⟩ := hp26
        have hR1 := rm_nk hR hN1
        obtain ⟨hm0z, ⟨hv3z, hv4z, hv5z, hv6z, hv8z, hv9z, hv11z, hv12z, hv15z, hv18z, hv19z, hv20z, hv24z, hv30z, hv31z, hv32z, hv33z, hv34z, hv35z⟩, ha1z, ha2z, ha3z, ha4z, ha5z, ha6z, ha7z, ha8z, ha9z, ha10z, ha11z, ha12z, ha13z, ha14z, ha15z, ha16z, ha17z, ha18z, ha19z⟩ := id hM1
        refine xistore_n hx hb dX12_sign_29 hl (by decide) rfl (fun ls hl => ?_)
        refine xiload_n hx hb dX12_sign_30 hl rfl ?_
        first | refine xifb_ne (tgt := 37) hx hb dX12_sign_31 (by decide) (fun c31 => ?_) (fun c31 => ?_) | refine xif_ne (tgt := 37) hx hb dX12_sign_31 (by decide) (by omega) (fun c31 => ?_) (fun c31 => ?_) | refine lv_if_ne (tgt := 37) hx hb dX12_sign_31 (by decide) (fun c31 => ?_) (fun c31 => ?_)
        · skip
          refine xaload_n hx hb dX12_sign_37 hl rfl ?_
          refine xgetM hx hb hts hiX12 hown hG hw (by repeat first | assumption | exact wu_eq _ _ _ | refine wu_ne (by omega) ?_) 7 (by decide) hlnk0 (by repeat first | assumption | exact vu_eq _ _ _ | refine vu_ne (by decide) ?_) dX12_sign_38 ?_
          refine lv_bipush (v := nI 6) hx hb dX12_sign_41 (by decide) ?_
          first | refine xcmp_ne (tgt := 49) hx hb dX12_sign_43 (by decide) (by omega) (by omega) (fun c43 => ?_) (fun c43 => ?_) | refine lv_icmp_ne (tgt := 49) hx hb dX12_sign_43 (by decide) (fun c43 => ?_) (fun c43 => ?_)
          · skip
            refine xaload_n hx hb dX12_sign_49 hl rfl ?_
            refine xgetM hx hb hts hiX12 hown hG hw (by repeat first | assumption | exact wu_eq _ _ _ | refine wu_ne (by omega) ?_) 8 (by decide) hlnk1 (by repeat first | assumption | exact vu_eq _ _ _ | refine vu_ne (by decide) ?_) dX12_sign_50 ?_
            refine xaload_n hx hb dX12_sign_53 hl rfl ?_
            refine xgetM hx hb hts hiX12 hown hG hw (by repeat first | assumption | exact wu_eq _ _ _ | refine wu_ne (by omega) ?_) 7 (by decide) hlnk0 (by repeat first | assumption | exact vu_eq _ _ _ | refine vu_ne (by decide) ?_) dX12_sign_54 ?_
            refine xiload_n hx hb dX12_sign_57 hl rfl ?_
            refine xiast hx hb hG hw hS (by repeat first | assumption | exact wu_eq _ _ _ | refine wu_ne (by omega) ?_) (by omega) (by omega) dX12_sign_58 (fun H locs hzz hw hS => ?_)
            refine xaload_n hx hb dX12_sign_59 hl rfl ?_
            refine xgetM hx hb hts hiX12 hown hG hw (by repeat first | assumption | exact wu_eq _ _ _ | refine wu_ne (by omega) ?_) 9 (by decide) hlnk2 (by repeat first | assumption | exact vu_eq _ _ _ | refine vu_ne (by decide) ?_) dX12_sign_60 ?_
            refine xaload_n hx hb dX12_sign_63 hl rfl ?_
            refine xgetM hx hb hts hiX12 hown hG hw (by repeat first | assumption | exact wu_eq _ _ _ | refine wu_ne (by omega) ?_) 7 (by decide) hlnk0 (by repeat first | assumption | exact vu_eq _ _ _ | refine vu_ne (by decide) ?_) dX12_sign_64 ?_
            refine xiload_n hx hb dX12_sign_67 hl rfl ?_
            refine xiast hx hb hG hw hS (by repeat first | assumption | exact wu_eq _ _ _ | refine wu_ne (by omega) ?_) (by omega) (by omega) dX12_sign_68 (fun H locs hzz hw hS => ?_)
            refine xaload_n hx hb dX12_sign_69 hl rfl ?_
            refine lv_dup hx hb dX12_sign_70 rfl ?_
            refine xgetM hx hb hts hiX12 hown hG hw (by repeat first | assumption | exact wu_eq _ _ _ | refine wu_ne (by omega) ?_) 7 (by decide) hlnk0 (by repeat first | assumption | exact vu_eq _ _ _ | refine vu_ne (by decide) ?_) dX12_sign_71 ?_
            refine lv_iconst (v := nI 1) hx hb dX12_sign_74 (by decide) ?_
            first | refine xadd hx hb dX12_sign_75 ?_ | refine lv_iadd hx hb dX12_sign_75 ?_
            refine xputM (ty := .int) hx hb hts hiX12 hown hG hw hS (by repeat first | assumption | exact wu_eq _ _ _ | refine wu_ne (by omega) ?_) 7 (by decide) hlnk0 rfl (by decide +kernel) rfl rfl dX12_sign_76 (fun H locs hzz hw hS => ?_)
            refine xaload_n hx hb dX12_sign_79 hl rfl ?_
            refine xgetM hx hb hts hiX12 hown hG hw (by repeat first | assumption | exact wu_eq _ _ _ | refine wu_ne (by omega) ?_) 7 (by decide) hlnk0 (by repeat first | assumption | exact vu_eq _ _ _ | refine vu_ne (by decide) ?_) dX12_sign_80 ?_
            refine lv_iconst (v := nI 1) hx hb dX12_sign_83 (by decide) ?_
            first | refine xsub hx hb dX12_sign_84 (by omega) ?_ | refine lv_isub hx hb dX12_sign_84 ?_
            have hyes := sign_y (k := k) hi hi31 (by omega) (by omega) (by omega) c31 (by omega)
            exact xiret hx hb hr hlk hw hS dX12_sign_85 ⟨by rw [hyes]; exact congrArg nI (by omega), ⟨_, _, ((hM1.a5 _).a6 _).put (k := 7) (.int (nI ((sd S).length + 1))) (by decide), by rw [hyes]; exact rm_sign hR1⟩, ((hO1.wu (by omega) (by omega)).wu (by omega) (by omega)).wu (by omega) (by omega)⟩
          · skip
            refine lv_bipush (v := -104) hx hb dX12_sign_46 (by decide) ?_
            exact xiret hx hb hr hlk hw hS dX12_sign_48 ⟨by rw [sign_f hi hi31 (by omega) (by omega) (by omega) c31 (by omega)], ⟨V, A1, hM1, by rw [sign_f hi hi31 (by omega) (by omega) (by omega) c31 (by omega)]; exact hR1⟩, hO1⟩
        · skip
          refine lv_bipush (v := -103) hx hb dX12_sign_34 (by decide) ?_
          exact xiret hx hb hr hlk hw hS dX12_sign_36 ⟨by rw [sign_n hi hi31 (by omega) (by omega) (by omega) c31], ⟨V, A1, hM1, by rw [sign_n hi hi31 (by omega) (by omega) (by omega) c31]; exact hR1⟩, hO1⟩
      · skip
        exfalso
        cases c18
    · skip
      exfalso
      cases c5
  · skip
    refine xaload_n hx hb dX12_sign_0 hl rfl ?_
    refine xiload_n hx hb dX12_sign_1 hl rfl ?_
    refine xVi ⟨hx, hb, hml, hown, hts⟩ (kX12_isOne l N0 G _ _ V A hM S hR hL _) (cwV 1 hts gX12_sign_X12_isOne rfl rfl rfl (by decide +kernel) ⟨Nat.le_of_ble_eq_true rfl, Nat.le_of_ble_eq_true rfl⟩) hG hN hw hS (ci := 12) (by repeat first | assumption | exact wu_eq _ _ _ | refine wu_ne (by omega) ?_) rfl rfl hl.1 rfl (Nat.le_of_ble_eq_true rfl) dX12_sign_2 ⟨Nat.le_of_ble_eq_true rfl, Nat.le_of_ble_eq_true rfl⟩ (fun r2 w2 H locs hp2 hw hS => ?_)
    obtain ⟨rfl, rfl⟩ := hp2
    refine xtop (y := bI true) (congrArg bI (decide_eq_true (inR_nI hi (by omega)))) ?_
    first | refine xifb_ne (tgt := 11) hx hb dX12_sign_5 (by decide) (fun c5 => ?_) (fun c5 => ?_) | refine xif_ne (tgt := 11) hx hb dX12_sign_5 (by decide) (by omega) (fun c5 => ?_) (fun c5 => ?_) | refine lv_if_ne (tgt := 11) hx hb dX12_sign_5 (by decide) (fun c5 => ?_) (fun c5 => ?_)
    · skip
      refine xiload_n hx hb dX12_sign_11 hl rfl ?_
      refine lv_iconst (v := nI 1) hx hb dX12_sign_12 (by decide) ?_
      refine lv_bipush (v := nI 9) hx hb dX12_sign_13 (by decide) ?_
      refine xSi ⟨hx, hb, hml, hown, hts⟩ (kX12_within l N0 G _ _ _ _) (va_cwS 3 hts gX12_sign_X12_within rfl rfl rfl (by decide +kernel) ⟨Nat.le_of_ble_eq_true rfl, Nat.le_of_ble_eq_true rfl⟩) hG hN hw hS rfl hl.1 rfl (Nat.le_of_ble_eq_true rfl) dX12_sign_15 ⟨Nat.le_of_ble_eq_true rfl, Nat.le_of_ble_eq_true rfl⟩ (fun r15 w15 H locs hp15 hw hS => ?_)
      obtain ⟨rfl, rfl⟩ := hp15
      refine xtop (y := bI false) (congrArg bI hy1) ?_
      first | refine xifb_ne (tgt := 24) hx hb dX12_sign_18 (by decide) (fun c18 => ?_) (fun c18 => ?_) | refine xif_ne (tgt := 24) hx hb dX12_sign_18 (by decide) (by omega) (fun c18 => ?_) (fun c18 => ?_) | refine lv_if_ne (tgt := 24) hx hb dX12_sign_18 (by decide) (fun c18 => ?_) (fun c18 => ?_)
      · skip
        exfalso
        cases c18
      · skip
        refine lv_bipush (v := -102) hx hb dX12_sign_21 (by decide) ?_
        exact xiret hx hb hr hlk hw hS dX12_sign_23 ⟨by rw [hy2 S i hi hi31], ⟨V, A, hM, by rw [hy2 S i hi hi31]; exact hR⟩, Out.rf⟩
    · skip
      exfalso
      cases c5
  · skip
    refine xaload_n hx hb dX12_sign_0 hl rfl ?_
    refine xiload_n hx hb dX12_sign_1 hl rfl ?_
    refine xVi ⟨hx, hb, hml, hown, hts⟩ (kX12_isOne l N0 G _ _ V A hM S hR hL _) (cwV 1 hts gX12_sign_X12_isOne rfl rfl rfl (by decide +kernel) ⟨Nat.le_of_ble_eq_true rfl, Nat.le_of_ble_eq_true rfl⟩) hG hN hw hS (ci := 12) (by repeat first | assumption | exact wu_eq _ _ _ | refine wu_ne (by omega) ?_) rfl rfl hl.1 rfl (Nat.le_of_ble_eq_true rfl) dX12_sign_2 ⟨Nat.le_of_ble_eq_true rfl, Nat.le_of_ble_eq_true rfl⟩ (fun r2 w2 H locs hp2 hw hS => ?_)
    obtain ⟨rfl, rfl⟩ := hp2
    refine xtop (y := bI false) (congrArg bI (decide_eq_false hx1)) ?_
    first | refine xifb_ne (tgt := 11) hx hb dX12_sign_5 (by decide) (fun c5 => ?_) (fun c5 => ?_) | refine xif_ne (tgt := 11) hx hb dX12_sign_5 (by decide) (by omega) (fun c5 => ?_) (fun c5 => ?_) | refine lv_if_ne (tgt := 11) hx hb dX12_sign_5 (by decide) (fun c5 => ?_) (fun c5 => ?_)
    · skip
      exfalso
      cases c5
    · skip
      refine lv_bipush (v := -101) hx hb dX12_sign_8 (by decide) ?_
      exact xiret hx hb hr hlk hw hS dX12_sign_10 ⟨by rw [o_sign, onR_out hx1], ⟨V, A, hM, by rw [o_sign, onR_out hx1]; exact hR⟩, Out.rf⟩
  · skip
    refine xaload_n hx hb dX12_sign_0 hl rfl ?_
    refine xiload_n hx hb dX12_sign_1 hl rfl ?_
    refine xVi ⟨hx, hb, hml, hown, hts⟩ (kX12_isOne l N0 G _ _ V A hM S hR hL _) (cwV 1 hts gX12_sign_X12_isOne rfl rfl rfl (by decide +kernel) ⟨Nat.le_of_ble_eq_true rfl, Nat.le_of_ble_eq_true rfl⟩) hG hN hw hS (ci := 12) (by repeat first | assumption | exact wu_eq _ _ _ | refine wu_ne (by omega) ?_) rfl rfl hl.1 rfl (Nat.le_of_ble_eq_true rfl) dX12_sign_2 ⟨Nat.le_of_ble_eq_true rfl, Nat.le_of_ble_eq_true rfl⟩ (fun r2 w2 H locs hp2 hw hS => ?_)
    obtain ⟨rfl, rfl⟩ := hp2
    refine xtop (y := bI false) (congrArg bI (decide_eq_false hx1)) ?_
    first | refine xifb_ne (tgt := 11) hx hb dX12_sign_5 (by decide) (fun c5 => ?_) (fun c5 => ?_) | refine xif_ne (tgt := 11) hx hb dX12_sign_5 (by decide) (by omega) (fun c5 => ?_) (fun c5 => ?_) | refine lv_if_ne (tgt := 11) hx hb dX12_sign_5 (by decide) (fun c5 => ?_) (fun c5 => ?_)
    · skip
      exfalso
      cases c5
    · skip
      refine lv_bipush (v := -101) hx hb dX12_sign_8 (by decide) ?_
      exact xiret hx hb hr hlk hw hS dX12_sign_10 ⟨by rw [o_sign, onR_out hx1], ⟨V, A, hM, by rw [o_sign, onR_out hx1]; exact hR⟩, Out.rf⟩
set_option maxHeartbeats 4000000 in
set_option maxRecDepth 100000 in
theorem kX12_free (l : Launch) (N0 : Nat) (G : XG) (w : Wd) (M0 : Nat) (V : Nat → Value) (A : Nat → Nat → Int32) (hM : MW G w M0 V A) (S : QS) (hR : RM S V A) (hL : WB S) (x y : Int32) : XM l yX12_free wsX12_free (rmD 3) N0 G [.ref M0, .int x, .int y] w vI (fun r w1 => (o_free S x y).1 = r ∧ (∃ V1 A1, MW G w1 M0 V1 A1 ∧ RM ((o_free S x y).2) V1 A1) ∧ Out w w1 M0 (M0 + 20)) 0 0 := by
  refine XM.of (cc := cX12_free) (maxL := 3) (ret := (some .int)) (by decide) rfl (Nat.le_of_ble_eq_true rfl) ?_
  intro p e s m below meth c hx hb hr hlk hin0 hml hown hts hN hw hG hS ls hl
  have hown : s.vm.findClass RX12 = some m.cls := hown
  have hiX12 : ∀ x ∈ u_ws RX12 TX12 37, x ∈ wsX12_free := by decide +kernel
  have hlnk0 := hts (.fieldLink RX12 25 "LentQuillModel" "boundOf" "[I") (by decide +kernel)
  have hl : lh ls 3 [some (.ref M0), some (.int x), some (.int y)] := hl
  obtain ⟨hm0, ⟨hv3, hv4, hv5, hv6, hv8, hv9, hv11, hv12, hv15, hv18, hv19, hv20, hv24, hv30, hv31, hv32, hv33, hv34, hv35⟩, ha1, ha2, ha3, ha4, ha5, ha6, ha7, ha8, ha9, ha10, ha11, ha12, ha13, ha14, ha15, ha16, ha17, ha18, ha19⟩ := id hM
  obtain ⟨ht, hn, hlm, hdn, hhn, has, hpl, hkw, hRB, hpg, hkp⟩ := id hR
  obtain ⟨hn5, hl5, hkd, hsp, hd6, hdw, hh6, hg18, hgr, hIm⟩ := id hL
  rcases inR_or x (sd S).length with ⟨i, hi, hi31, rfl⟩ | hx1 <;> rcases inR_or y (sn S) with ⟨k, hk, hk31, rfl⟩ | hy1
  · skip
    have hb5 : A 5 i = nI (dbt (sd S) i) := (hRB.2.1 i hi).1
    have hb6 : A 6 i = nI (bd (sd S) i) := (hRB.2.1 i hi).2
    have hb32 := (hdw i hi).2
    refine xaload_n hx hb dX12_free_0 hl rfl ?_
    refine xiload_n hx hb dX12_free_1 hl rfl ?_
    refine xVi ⟨hx, hb, hml, hown, hts⟩ (kX12_isDeed l N0 G _ _ V A hM S hR hL _) (cwV 1 hts gX12_free_X12_isDeed rfl rfl rfl (by decide +kernel) ⟨Nat.le_of_ble_eq_true rfl, Nat.le_of_ble_eq_true rfl⟩) hG hN hw hS (ci := 12) (by repeat first | assumption | exact wu_eq _ _ _ | refine wu_ne (by omega) ?_) rfl rfl hl.1 rfl (Nat.le_of_ble_eq_true rfl) dX12_free_2 ⟨Nat.le_of_ble_eq_true rfl, Nat.le_of_ble_eq_true rfl⟩ (fun r2 w2 H locs hp2 hw hS => ?_)
    obtain ⟨rfl, rfl⟩ := hp2
    refine xtop (y := bI true) (congrArg bI (decide_eq_true (inR_nI hi (by omega)))) ?_
    first | refine xifb_eq (tgt := 16) hx hb dX12_free_5 (by decide) (fun c5 => ?_) (fun c5 => ?_) | refine xif_eq (tgt := 16) hx hb dX12_free_5 (by decide) (by omega) (fun c5 => ?_) (fun c5 => ?_) | refine lv_if_eq (tgt := 16) hx hb dX12_free_5 (by decide) (fun c5 => ?_) (fun c5 => ?_)
    · skip
      exfalso
      cases c5
    · skip
      refine xaload_n hx hb dX12_free_8 hl rfl ?_
      refine xiload_n hx hb dX12_free_9 hl rfl ?_
      refine xVi ⟨hx, hb, hml, hown, hts⟩ (kX12_isOne l N0 G _ _ V A hM S hR hL _) (cwV 1 hts gX12_free_X12_isOne rfl rfl rfl (by decide +kernel) ⟨Nat.le_of_ble_eq_true rfl, Nat.le_of_ble_eq_true rfl⟩) hG hN hw hS (ci := 12) (by repeat first | assumption | exact wu_eq _ _ _ | refine wu_ne (by omega) ?_) rfl rfl hl.1 rfl (Nat.le_of_ble_eq_true rfl) dX12_free_10 ⟨Nat.le_of_ble_eq_true rfl, Nat.le_of_ble_eq_true rfl⟩ (fun r10 w10 H locs hp10 hw hS => ?_)
      obtain ⟨rfl, rfl⟩ := hp10
      refine xtop (y := bI true) (congrArg bI (decide_eq_true (inR_nI hk (by omega)))) ?_
      first | refine xifb_ne (tgt := 19) hx hb dX12_free_13 (by decide) (fun c13 => ?_) (fun c13 => ?_) | refine xif_ne (tgt := 19) hx hb dX12_free_13 (by decide) (by omega) (fun c13 => ?_) (fun c13 => ?_) | refine lv_if_ne (tgt := 19) hx hb dX12_free_13 (by decide) (fun c13 => ?_) (fun c13 => ?_)
      · skip
        refine xaload_n hx hb dX12_free_19 hl rfl ?_
        refine xgetM hx hb hts hiX12 hown hG hw (by repeat first | assumption | exact wu_eq _ _ _ | refine wu_ne (by omega) ?_) 9 (by decide) hlnk0 (by repeat first | assumption | exact vu_eq _ _ _ | refine vu_ne (by decide) ?_) dX12_free_20 ?_
        refine xiload_n hx hb dX12_free_23 hl rfl ?_
        refine xiald hx hb hG hw (by repeat first | assumption | exact wu_eq _ _ _ | refine wu_ne (by omega) ?_) (by omega) (by omega) dX12_free_24 ?_
        refine xtop hb6 ?_
        refine xiload_n hx hb dX12_free_25 hl rfl ?_
        refine xSi ⟨hx, hb, hml, hown, hts⟩ (kX12_isIn l N0 G _ _ k hb32 (by omega)) (va_cwS 2 hts gX12_free_X12_isIn rfl rfl rfl (by decide +kernel) ⟨Nat.le_of_ble_eq_true rfl, Nat.le_of_ble_eq_true rfl⟩) hG hN hw hS rfl hl.1 rfl (Nat.le_of_ble_eq_true rfl) dX12_free_26 ⟨Nat.le_of_ble_eq_true rfl, Nat.le_of_ble_eq_true rfl⟩ (fun r26 w26 H locs hp26 hw hS => ?_)
        obtain ⟨rfl, rfl⟩ := hp26
        first | refine xifb_ne (tgt := 35) hx hb dX12_free_29 (by decide) (fun c29 => ?_) (fun c29 => ?_) | refine xif_ne (tgt := 35) hx hb dX12_free_29 (by decide) (by omega) (fun c29 => ?_) (fun c29 => ?_) | refine lv_if_ne (tgt := 35) hx hb dX12_free_29 (by decide) (fun c29 => ?_) (fun c29 => ?_)
        · skip
          refine xaload_n hx hb dX12_free_35 hl rfl ?_
          refine xgetM hx hb hts hiX12 hown hG hw (by repeat first | assumption | exact wu_eq _ _ _ | refine wu_ne (by omega) ?_) 9 (by decide) hlnk0 (by repeat first | assumption | exact vu_eq _ _ _ | refine vu_ne (by decide) ?_) dX12_free_36 ?_
          refine xiload_n hx hb dX12_free_39 hl rfl ?_
          first | refine lv_dup2_11 hx hb dX12_free_40 rfl rfl ?_ | refine lv_dup2_2 hx hb dX12_free_40 rfl ?_
          refine xiald hx hb hG hw (by repeat first | assumption | exact wu_eq _ _ _ | refine wu_ne (by omega) ?_) (by omega) (by omega) dX12_free_41 ?_
          refine xtop hb6 ?_
          refine lv_iconst (v := nI 1) hx hb dX12_free_42 (by decide) ?_
          refine xiload_n hx hb dX12_free_43 hl rfl ?_
          first | refine xshl hx hb dX12_free_44 (by omega) ?_ | refine lv_ishl hx hb dX12_free_44 ?_
          refine lv_iconst (v := -1) hx hb dX12_free_45 (by decide) ?_
          refine lv_ixor hx hb dX12_free_46 ?_
          first | refine xand hx hb dX12_free_47 ?_ | refine lv_iand hx hb dX12_free_47 ?_
          refine xtop (y := nI (clr (bd (sd S) i) k)) (clr_all _ hb32 k (by omega)) ?_
          refine xiast hx hb hG hw hS (by repeat first | assumption | exact wu_eq _ _ _ | refine wu_ne (by omega) ?_) (by omega) (by omega) dX12_free_48 (fun H locs hzz hw hS => ?_)
          refine xaload_n hx hb dX12_free_49 hl rfl ?_
          refine xgetM hx hb hts hiX12 hown hG hw (by repeat first | assumption | exact wu_eq _ _ _ | refine wu_ne (by omega) ?_) 9 (by decide) hlnk0 (by repeat first | assumption | exact vu_eq _ _ _ | refine vu_ne (by decide) ?_) dX12_free_50 ?_
          refine xiload_n hx hb dX12_free_53 hl rfl ?_
          refine xiald hx hb hG hw (by repeat first | assumption | exact wu_eq _ _ _ | refine wu_ne (by omega) ?_) (by omega) (by omega) dX12_free_54 ?_
          refine xtop (upd_at _ _ _) ?_
          refine xSi ⟨hx, hb, hml, hown, hts⟩ (kX12_size l N0 G _ _ (clr_lt _ hb32 k (by omega))) (va_cwS 1 hts gX12_free_X12_size rfl rfl rfl (by decide +kernel) ⟨Nat.le_of_ble_eq_true rfl, Nat.le_of_ble_eq_true rfl⟩) hG hN hw hS rfl hl.1 rfl (Nat.le_of_ble_eq_true rfl) dX12_free_55 ⟨Nat.le_of_ble_eq_true rfl, Nat.le_of_ble_eq_true rfl⟩ (fun r55 w55 H locs hp55 hw hS => ?_)
          obtain ⟨rfl, rfl⟩ := hp55
          exact xiret hx hb hr hlk hw hS dX12_free_58 ⟨by rw [free_y hi hi31 hk hk31 c29], ⟨_, _, hM.a6 _, by rw [free_y hi hi31 hk hk31 c29]; exact rm_free hR hi⟩, Out.rf.wu (by omega) (by omega)⟩
        · skip
          refine lv_bipush (v := -103) hx hb dX12_free_32 (by decide) ?_
          exact xiret hx hb hr hlk hw hS dX12_free_34 ⟨by rw [free_n hi hi31 hk hk31 c29], ⟨V, A, hM, by rw [free_n hi hi31 hk hk31 c29]; exact hR⟩, Out.rf⟩
      · skip
        exfalso
        cases c13
  · skip
    refine xaload_n hx hb dX12_free_0 hl rfl ?_
    refine xiload_n hx hb dX12_free_1 hl rfl ?_
    refine xVi ⟨hx, hb, hml, hown, hts⟩ (kX12_isDeed l N0 G _ _ V A hM S hR hL _) (cwV 1 hts gX12_free_X12_isDeed rfl rfl rfl (by decide +kernel) ⟨Nat.le_of_ble_eq_true rfl, Nat.le_of_ble_eq_true rfl⟩) hG hN hw hS (ci := 12) (by repeat first | assumption | exact wu_eq _ _ _ | refine wu_ne (by omega) ?_) rfl rfl hl.1 rfl (Nat.le_of_ble_eq_true rfl) dX12_free_2 ⟨Nat.le_of_ble_eq_true rfl, Nat.le_of_ble_eq_true rfl⟩ (fun r2 w2 H locs hp2 hw hS => ?_)
    obtain ⟨rfl, rfl⟩ := hp2
    refine xtop (y := bI true) (congrArg bI (decide_eq_true (inR_nI hi (by omega)))) ?_
    first | refine xifb_eq (tgt := 16) hx hb dX12_free_5 (by decide) (fun c5 => ?_) (fun c5 => ?_) | refine xif_eq (tgt := 16) hx hb dX12_free_5 (by decide) (by omega) (fun c5 => ?_) (fun c5 => ?_) | refine lv_if_eq (tgt := 16) hx hb dX12_free_5 (by decide) (fun c5 => ?_) (fun c5 => ?_)
    · skip
      exfalso
      cases c5
    · skip
      refine xaload_n hx hb dX12_free_8 hl rfl ?_
      refine xiload_n hx hb dX12_free_9 hl rfl ?_
      refine xVi ⟨hx, hb, hml, hown, hts⟩ (kX12_isOne l N0 G _ _ V A hM S hR hL _) (cwV 1 hts gX12_free_X12_isOne rfl rfl rfl (by decide +kernel) ⟨Nat.le_of_ble_eq_true rfl, Nat.le_of_ble_eq_true rfl⟩) hG hN hw hS (ci := 12) (by repeat first | assumption | exact wu_eq _ _ _ | refine wu_ne (by omega) ?_) rfl rfl hl.1 rfl (Nat.le_of_ble_eq_true rfl) dX12_free_10 ⟨Nat.le_of_ble_eq_true rfl, Nat.le_of_ble_eq_true rfl⟩ (fun r10 w10 H locs hp10 hw hS => ?_)
      obtain ⟨rfl, rfl⟩ := hp10
      refine xtop (y := bI false) (congrArg bI (decide_eq_false hy1)) ?_
      first | refine xifb_ne (tgt := 19) hx hb dX12_free_13 (by decide) (fun c13 => ?_) (fun c13 => ?_) | refine xif_ne (tgt := 19) hx hb dX12_free_13 (by decide) (by omega) (fun c13 => ?_) (fun c13 => ?_) | refine lv_if_ne (tgt := 19) hx hb dX12_free_13 (by decide) (fun c13 => ?_) (fun c13 => ?_)
      · skip
        exfalso
        cases c13
      · skip
        refine lv_bipush (v := -101) hx hb dX12_free_16 (by decide) ?_
        exact xiret hx hb hr hlk hw hS dX12_free_18 ⟨by rw [o_free, onR_in hi hi31, onR_out hy1], ⟨V, A, hM, by rw [o_free, onR_in hi hi31, onR_out hy1]; exact hR⟩, Out.rf⟩
  · skip
    refine xaload_n hx hb dX12_free_0 hl rfl ?_
    refine xiload_n hx hb dX12_free_1 hl rfl ?_
    refine xVi ⟨hx, hb, hml, hown, hts⟩ (kX12_isDeed l N0 G _ _ V A hM S hR hL _) (cwV 1 hts gX12_free_X12_isDeed rfl rfl rfl (by decide +kernel) ⟨Nat.le_of_ble_eq_true rfl, Nat.le_of_ble_eq_true rfl⟩) hG hN hw hS (ci := 12) (by repeat first | assumption | exact wu_eq _ _ _ | refine wu_ne (by omega) ?_) rfl rfl hl.1 rfl (Nat.le_of_ble_eq_true rfl) dX12_free_2 ⟨Nat.le_of_ble_eq_true rfl, Nat.le_of_ble_eq_true rfl⟩ (fun r2 w2 H locs hp2 hw hS => ?_)
    obtain ⟨rfl, rfl⟩ := hp2
    refine xtop (y := bI false) (congrArg bI (decide_eq_false hx1)) ?_
    first | refine xifb_eq (tgt := 16) hx hb dX12_free_5 (by decide) (fun c5 => ?_) (fun c5 => ?_) | refine xif_eq (tgt := 16) hx hb dX12_free_5 (by decide) (by omega) (fun c5 => ?_) (fun c5 => ?_) | refine lv_if_eq (tgt := 16) hx hb dX12_free_5 (by decide) (fun c5 => ?_) (fun c5 => ?_)
    · skip
      refine lv_bipush (v := -101) hx hb dX12_free_16 (by decide) ?_
      exact xiret hx hb hr hlk hw hS dX12_free_18 ⟨by rw [o_free, onR_out hx1], ⟨V, A, hM, by rw [o_free, onR_out hx1]; exact hR⟩, Out.rf⟩
    · skip
      exfalso
      cases c5
  · skip
    refine xaload_n hx hb dX12_free_0 hl rfl ?_
    refine xiload_n hx hb dX12_free_1 hl rfl ?_
    refine xVi ⟨hx, hb, hml, hown, hts⟩ (kX12_isDeed l N0 G _ _ V A hM S hR hL _) (cwV 1 hts gX12_free_X12_isDeed rfl rfl rfl (by decide +kernel) ⟨Nat.le_of_ble_eq_true rfl, Nat.le_of_ble_eq_true rfl⟩) hG hN hw hS (ci := 12) (by repeat first | assumption | exact wu_eq _ _ _ | refine wu_ne (by omega) ?_) rfl rfl hl.1 rfl (Nat.le_of_ble_eq_true rfl) dX12_free_2 ⟨Nat.le_of_ble_eq_true rfl, Nat.le_of_ble_eq_true rfl⟩ (fun r2 w2 H locs hp2 hw hS => ?_)
    obtain ⟨rfl, rfl⟩ := hp2
    refine xtop (y := bI false) (congrArg bI (decide_eq_false hx1)) ?_
    first | refine xifb_eq (tgt := 16) hx hb dX12_free_5 (by decide) (fun c5 => ?_) (fun c5 => ?_) | refine xif_eq (tgt := 16) hx hb dX12_free_5 (by decide) (by omega) (fun c5 => ?_) (fun c5 => ?_) | refine lv_if_eq (tgt := 16) hx hb dX12_free_5 (by decide) (fun c5 => ?_) (fun c5 => ?_)
    · skip
      refine lv_bipush (v := -101) hx hb dX12_free_16 (by decide) ?_
      exact xiret hx hb hr hlk hw hS dX12_free_18 ⟨by rw [o_free, onR_out hx1], ⟨V, A, hM, by rw [o_free, onR_out hx1]; exact hR⟩, Out.rf⟩
    · skip
      exfalso
      cases c5
set_option maxHeartbeats 4000000 in
set_option maxRecDepth 100000 in
theorem kX12_hear (l : Launch) (N0 : Nat) (G : XG) (w : Wd) (M0 : Nat) (V : Nat → Value) (A : Nat → Nat → Int32) (hM : MW G w M0 V A) (S : QS) (hR : RM S V A) (hL : WB S) (x : Int32) (v : Bool) : XM l yX12_hear wsX12_hear (rmD 3) N0 G [.ref M0, .int x, .int (bI v)] w vI (fun r w1 => (o_hear S x v).1 = r ∧ (∃ V1 A1, MW G w1 M0 V1 A1 ∧ RM ((o_hear S x v).2) V1 A1) ∧ Out w w1 M0 (M0 + 20)) 0 0 := by
  refine XM.of (cc := cX12_hear) (maxL := 3) (ret := (some .int)) (by decide) rfl (Nat.le_of_ble_eq_true rfl) ?_
  intro p e s m below meth c hx hb hr hlk hin0 hml hown hts hN hw hG hS ls hl
  have hown : s.vm.findClass RX12 = some m.cls := hown
  have hiX12 : ∀ x ∈ u_ws RX12 TX12 37, x ∈ wsX12_hear := by decide +kernel
  have hlnk0 := hts (.fieldLink RX12 106 "LentQuillModel" "heard" "I") (by decide +kernel)
  have hlnk1 := hts (.fieldLink RX12 28 "LentQuillModel" "heardWho" "[I") (by decide +kernel)
  have hlnk2 := hts (.fieldLink RX12 31 "LentQuillModel" "heardBound" "[I") (by decide +kernel)
  have hl : lh ls 3 [some (.ref M0), some (.int x), some (.int (bI v))] := hl
  obtain ⟨hm0, ⟨hv3, hv4, hv5, hv6, hv8, hv9, hv11, hv12, hv15, hv18, hv19, hv20, hv24, hv30, hv31, hv32, hv33, hv34, hv35⟩, ha1, ha2, ha3, ha4, ha5, ha6, ha7, ha8, ha9, ha10, ha11, ha12, ha13, ha14, ha15, ha16, ha17, ha18, ha19⟩ := id hM
  obtain ⟨ht, hn, hlm, hdn, hhn, has, hpl, hkw, hRB, hpg, hkp⟩ := id hR
  obtain ⟨hn5, hl5, hkd, hsp, hd6, hdw, hh6, hg18, hgr, hIm⟩ := id hL
  rcases hear_cases S x with ⟨i, hi, hi31, hlt, rfl⟩ | ⟨i, hi, hi31, hlt, rfl⟩ | hx1
  · skip
    refine xaload_n hx hb dX12_hear_0 hl rfl ?_
    refine xiload_n hx hb dX12_hear_1 hl rfl ?_
    refine xVi ⟨hx, hb, hml, hown, hts⟩ (kX12_isOne l N0 G _ _ V A hM S hR hL _) (cwV 1 hts gX12_hear_X12_isOne rfl rfl rfl (by decide +kernel) ⟨Nat.le_of_ble_eq_true rfl, Nat.le_of_ble_eq_true rfl⟩) hG hN hw hS (ci := 12) (by repeat first | assumption | exact wu_eq _ _ _ | refine wu_ne (by omega) ?_) rfl rfl hl.1 rfl (Nat.le_of_ble_eq_true rfl) dX12_hear_2 ⟨Nat.le_of_ble_eq_true rfl, Nat.le_of_ble_eq_true rfl⟩ (fun r2 w2 H locs hp2 hw hS => ?_)
    obtain ⟨rfl, rfl⟩ := hp2
    refine xtop (y := bI true) (congrArg bI (decide_eq_true (inR_nI hi (by omega)))) ?_
    first | refine xifb_ne (tgt := 11) hx hb dX12_hear_5 (by decide) (fun c5 => ?_) (fun c5 => ?_) | refine xif_ne (tgt := 11) hx hb dX12_hear_5 (by decide) (by omega) (fun c5 => ?_) (fun c5 => ?_) | refine lv_if_ne (tgt := 11) hx hb dX12_hear_5 (by decide) (fun c5 => ?_) (fun c5 => ?_)
    · skip
      refine xaload_n hx hb dX12_hear_11 hl rfl ?_
      refine xgetM hx hb hts hiX12 hown hG hw (by repeat first | assumption | exact wu_eq _ _ _ | refine wu_ne (by omega) ?_) 10 (by decide) hlnk0 (by repeat first | assumption | exact vu_eq _ _ _ | refine vu_ne (by decide) ?_) dX12_hear_12 ?_
      refine lv_bipush (v := nI 6) hx hb dX12_hear_15 (by decide) ?_
      first | refine xcmp_ne (tgt := 23) hx hb dX12_hear_17 (by decide) (by omega) (by omega) (fun c17 => ?_) (fun c17 => ?_) | refine lv_icmp_ne (tgt := 23) hx hb dX12_hear_17 (by decide) (fun c17 => ?_) (fun c17 => ?_)
      · skip
        refine xaload_n hx hb dX12_hear_23 hl rfl ?_
        refine xgetM hx hb hts hiX12 hown hG hw (by repeat first | assumption | exact wu_eq _ _ _ | refine wu_ne (by omega) ?_) 11 (by decide) hlnk1 (by repeat first | assumption | exact vu_eq _ _ _ | refine vu_ne (by decide) ?_) dX12_hear_24 ?_
        refine xaload_n hx hb dX12_hear_27 hl rfl ?_
        refine xgetM hx hb hts hiX12 hown hG hw (by repeat first | assumption | exact wu_eq _ _ _ | refine wu_ne (by omega) ?_) 10 (by decide) hlnk0 (by repeat first | assumption | exact vu_eq _ _ _ | refine vu_ne (by decide) ?_) dX12_hear_28 ?_
        refine xiload_n hx hb dX12_hear_31 hl rfl ?_
        refine xiast hx hb hG hw hS (by repeat first | assumption | exact wu_eq _ _ _ | refine wu_ne (by omega) ?_) (by omega) (by omega) dX12_hear_32 (fun H locs hzz hw hS => ?_)
        refine xaload_n hx hb dX12_hear_33 hl rfl ?_
        refine xgetM hx hb hts hiX12 hown hG hw (by repeat first | assumption | exact wu_eq _ _ _ | refine wu_ne (by omega) ?_) 12 (by decide) hlnk2 (by repeat first | assumption | exact vu_eq _ _ _ | refine vu_ne (by decide) ?_) dX12_hear_34 ?_
        refine xaload_n hx hb dX12_hear_37 hl rfl ?_
        refine xgetM hx hb hts hiX12 hown hG hw (by repeat first | assumption | exact wu_eq _ _ _ | refine wu_ne (by omega) ?_) 10 (by decide) hlnk0 (by repeat first | assumption | exact vu_eq _ _ _ | refine vu_ne (by decide) ?_) dX12_hear_38 ?_
        refine xiload_n hx hb dX12_hear_41 hl rfl ?_
        first | refine xifb_eq (tgt := 49) hx hb dX12_hear_42 (by decide) (fun c42 => ?_) (fun c42 => ?_) | refine xif_eq (tgt := 49) hx hb dX12_hear_42 (by decide) (by omega) (fun c42 => ?_) (fun c42 => ?_) | refine lv_if_eq (tgt := 49) hx hb dX12_hear_42 (by decide) (fun c42 => ?_) (fun c42 => ?_)
        · skip
          refine lv_iconst (v := nI 0) hx hb dX12_hear_49 (by decide) ?_
          refine xtop (y := bI v) (by rw [c42]; rfl) ?_
          refine xiast hx hb hG hw hS (by repeat first | assumption | exact wu_eq _ _ _ | refine wu_ne (by omega) ?_) (by omega) (by omega) dX12_hear_50 (fun H locs hzz hw hS => ?_)
          refine xaload_n hx hb dX12_hear_51 hl rfl ?_
          refine lv_dup hx hb dX12_hear_52 rfl ?_
          refine xgetM hx hb hts hiX12 hown hG hw (by repeat first | assumption | exact wu_eq _ _ _ | refine wu_ne (by omega) ?_) 10 (by decide) hlnk0 (by repeat first | assumption | exact vu_eq _ _ _ | refine vu_ne (by decide) ?_) dX12_hear_53 ?_
          refine lv_iconst (v := nI 1) hx hb dX12_hear_56 (by decide) ?_
          first | refine xadd hx hb dX12_hear_57 ?_ | refine lv_iadd hx hb dX12_hear_57 ?_
          refine xputM (ty := .int) hx hb hts hiX12 hown hG hw hS (by repeat first | assumption | exact wu_eq _ _ _ | refine wu_ne (by omega) ?_) 10 (by decide) hlnk0 rfl (by decide +kernel) rfl rfl dX12_hear_58 (fun H locs hzz hw hS => ?_)
          refine xaload_n hx hb dX12_hear_61 hl rfl ?_
          refine xgetM hx hb hts hiX12 hown hG hw (by repeat first | assumption | exact wu_eq _ _ _ | refine wu_ne (by omega) ?_) 10 (by decide) hlnk0 (by repeat first | assumption | exact vu_eq _ _ _ | refine vu_ne (by decide) ?_) dX12_hear_62 ?_
          exact xiret hx hb hr hlk hw hS dX12_hear_65 ⟨by rw [hear_y hi hi31 hlt], ⟨_, _, ((hM.a7 _).a8 _).put (k := 10) (.int (nI ((sh S).length + 1))) (by decide), by rw [hear_y hi hi31 hlt]; exact rm_hear hR⟩, ((Out.rf.wu (by omega) (by omega)).wu (by omega) (by omega)).wu (by omega) (by omega)⟩
        · skip
          refine lv_iconst (v := nI 1) hx hb dX12_hear_45 (by decide) ?_
          refine lv_goto (tgt := 50) hx hb dX12_hear_46 (by decide) ?_
          refine xtop (y := bI v) (by rw [c42]; rfl) ?_
          refine xiast hx hb hG hw hS (by repeat first | assumption | exact wu_eq _ _ _ | refine wu_ne (by omega) ?_) (by omega) (by omega) dX12_hear_50 (fun H locs hzz hw hS => ?_)
          refine xaload_n hx hb dX12_hear_51 hl rfl ?_
          refine lv_dup hx hb dX12_hear_52 rfl ?_
          refine xgetM hx hb hts hiX12 hown hG hw (by repeat first | assumption | exact wu_eq _ _ _ | refine wu_ne (by omega) ?_) 10 (by decide) hlnk0 (by repeat first | assumption | exact vu_eq _ _ _ | refine vu_ne (by decide) ?_) dX12_hear_53 ?_
          refine lv_iconst (v := nI 1) hx hb dX12_hear_56 (by decide) ?_
          first | refine xadd hx hb dX12_hear_57 ?_ | refine lv_iadd hx hb dX12_hear_57 ?_
          refine xputM (ty := .int) hx hb hts hiX12 hown hG hw hS (by repeat first | assumption | exact wu_eq _ _ _ | refine wu_ne (by omega) ?_) 10 (by decide) hlnk0 rfl (by decide +kernel) rfl rfl dX12_hear_58 (fun H locs hzz hw hS => ?_)
          refine xaload_n hx hb dX12_hear_61 hl rfl ?_
          refine xgetM hx hb hts hiX12 hown hG hw (by repeat first | assumption | exact wu_eq _ _ _ | refine wu_ne (by omega) ?_) 10 (by decide) hlnk0 (by repeat first | assumption | exact vu_eq _ _ _ | refine vu_ne (by decide) ?_) dX12_hear_62 ?_
          exact xiret hx hb hr hlk hw hS dX12_hear_65 ⟨by rw [hear_y hi hi31 hlt], ⟨_, _, ((hM.a7 _).a8 _).put (k := 10) (.int (nI ((sh S).length + 1))) (by decide), by rw [hear_y hi hi31 hlt]; exact rm_hear hR⟩, ((Out.rf.wu (by omega) (by omega)).wu (by omega) (by omega)).wu (by omega) (by omega)⟩
      · skip
        exfalso
        omega
    · skip
      exfalso
      cases c5
  · skip
    refine xaload_n hx hb dX12_hear_0 hl rfl ?_
    refine xiload_n hx hb dX12_hear_1 hl rfl ?_
    refine xVi ⟨hx, hb, hml, hown, hts⟩ (kX12_isOne l N0 G _ _ V A hM S hR hL _) (cwV 1 hts gX12_hear_X12_isOne rfl rfl rfl (by decide +kernel) ⟨Nat.le_of_ble_eq_true rfl, Nat.le_of_ble_eq_true rfl⟩) hG hN hw hS (ci := 12) (by repeat first | assumption | exact wu_eq _ _ _ | refine wu_ne (by omega) ?_) rfl rfl hl.1 rfl (Nat.le_of_ble_eq_true rfl) dX12_hear_2 ⟨Nat.le_of_ble_eq_true rfl, Nat.le_of_ble_eq_true rfl⟩ (fun r2 w2 H locs hp2 hw hS => ?_)
    obtain ⟨rfl, rfl⟩ := hp2
    refine xtop (y := bI true) (congrArg bI (decide_eq_true (inR_nI hi (by omega)))) ?_
    first | refine xifb_ne (tgt := 11) hx hb dX12_hear_5 (by decide) (fun c5 => ?_) (fun c5 => ?_) | refine xif_ne (tgt := 11) hx hb dX12_hear_5 (by decide) (by omega) (fun c5 => ?_) (fun c5 => ?_) | refine lv_if_ne (tgt := 11) hx hb dX12_hear_5 (by decide) (fun c5 => ?_) (fun c5 => ?_)
    · skip
      refine xaload_n hx hb dX12_hear_11 hl rfl ?_
      refine xgetM hx hb hts hiX12 hown hG hw (by repeat first | assumption | exact wu_eq _ _ _ | refine wu_ne (by omega) ?_) 10 (by decide) hlnk0 (by repeat first | assumption | exact vu_eq _ _ _ | refine vu_ne (by decide) ?_) dX12_hear_12 ?_
      refine lv_bipush (v := nI 6) hx hb dX12_hear_15 (by decide) ?_
      first | refine xcmp_ne (tgt := 23) hx hb dX12_hear_17 (by decide) (by omega) (by omega) (fun c17 => ?_) (fun c17 => ?_) | refine lv_icmp_ne (tgt := 23) hx hb dX12_hear_17 (by decide) (fun c17 => ?_) (fun c17 => ?_)
      · skip
        exfalso
        omega
      · skip
        refine lv_bipush (v := -104) hx hb dX12_hear_20 (by decide) ?_
        exact xiret hx hb hr hlk hw hS dX12_hear_22 ⟨by rw [hear_f hi hi31 hlt], ⟨V, A, hM, by rw [hear_f hi hi31 hlt]; exact hR⟩, Out.rf⟩
    · skip
      exfalso
      cases c5
  · skip
    refine xaload_n hx hb dX12_hear_0 hl rfl ?_
    refine xiload_n hx hb dX12_hear_1 hl rfl ?_
    refine xVi ⟨hx, hb, hml, hown, hts⟩ (kX12_isOne l N0 G _ _ V A hM S hR hL _) (cwV 1 hts gX12_hear_X12_isOne rfl rfl rfl (by decide +kernel) ⟨Nat.le_of_ble_eq_true rfl, Nat.le_of_ble_eq_true rfl⟩) hG hN hw hS (ci := 12) (by repeat first | assumption | exact wu_eq _ _ _ | refine wu_ne (by omega) ?_) rfl rfl hl.1 rfl (Nat.le_of_ble_eq_true rfl) dX12_hear_2 ⟨Nat.le_of_ble_eq_true rfl, Nat.le_of_ble_eq_true rfl⟩ (fun r2 w2 H locs hp2 hw hS => ?_)
    obtain ⟨rfl, rfl⟩ := hp2
    refine xtop (y := bI false) (congrArg bI (decide_eq_false hx1)) ?_
    first | refine xifb_ne (tgt := 11) hx hb dX12_hear_5 (by decide) (fun c5 => ?_) (fun c5 => ?_) | refine xif_ne (tgt := 11) hx hb dX12_hear_5 (by decide) (by omega) (fun c5 => ?_) (fun c5 => ?_) | refine lv_if_ne (tgt := 11) hx hb dX12_hear_5 (by decide) (fun c5 => ?_) (fun c5 => ?_)
    · skip
      exfalso
      cases c5
    · skip
      refine lv_bipush (v := -101) hx hb dX12_hear_8 (by decide) ?_
      exact xiret hx hb hr hlk hw hS dX12_hear_10 ⟨by rw [o_hear, onR_out hx1], ⟨V, A, hM, by rw [o_hear, onR_out hx1]; exact hR⟩, Out.rf⟩
set_option maxHeartbeats 4000000 in
set_option maxRecDepth 100000 in
theorem kX12_forget (l : Launch) (N0 : Nat) (G : XG) (w : Wd) (M0 : Nat) (V : Nat → Value) (A : Nat → Nat → Int32) (hM : MW G w M0 V A) (S : QS) (hR : RM S V A) (hL : WB S) : XM l yX12_forget wsX12_forget (rmD 1) N0 G [.ref M0] w vI (fun r w1 => nI (sh S).length = r ∧ (∃ V1 A1, MW G w1 M0 V1 A1 ∧ RM (forS S) V1 A1) ∧ Out w w1 M0 (M0 + 20)) 0 0 := by
  refine XM.of (cc := cX12_forget) (maxL := 2) (ret := (some .int)) (by decide) rfl (Nat.le_of_ble_eq_true rfl) ?_
  intro p e s m below meth c hx hb hr hlk hin0 hml hown hts hN hw hG hS ls hl
  have hown : s.vm.findClass RX12 = some m.cls := hown
  have hiX12 : ∀ x ∈ u_ws RX12 TX12 37, x ∈ wsX12_forget := by decide +kernel
  have hlnk0 := hts (.fieldLink RX12 106 "LentQuillModel" "heard" "I") (by decide +kernel)
  have hl : lh ls 2 [some (.ref M0), none] := hl
  obtain ⟨hm0, ⟨hv3, hv4, hv5, hv6, hv8, hv9, hv11, hv12, hv15, hv18, hv19, hv20, hv24, hv30, hv31, hv32, hv33, hv34, hv35⟩, ha1, ha2, ha3, ha4, ha5, ha6, ha7, ha8, ha9, ha10, ha11, ha12, ha13, ha14, ha15, ha16, ha17, ha18, ha19⟩ := id hM
  obtain ⟨ht, hn, hlm, hdn, hhn, has, hpl, hkw, hRB, hpg, hkp⟩ := id hR
  obtain ⟨hn5, hl5, hkd, hsp, hd6, hdw, hh6, hg18, hgr, hIm⟩ := id hL
  refine xaload_n hx hb dX12_forget_0 hl rfl ?_
  refine xgetM hx hb hts hiX12 hown hG hw (by repeat first | assumption | exact wu_eq _ _ _ | refine wu_ne (by omega) ?_) 10 (by decide) hlnk0 (by repeat first | assumption | exact vu_eq _ _ _ | refine vu_ne (by decide) ?_) dX12_forget_1 ?_
  refine xistore_n hx hb dX12_forget_4 hl (by decide) rfl (fun ls hl => ?_)
  refine xaload_n hx hb dX12_forget_5 hl rfl ?_
  refine lv_iconst (v := nI 0) hx hb dX12_forget_6 (by decide) ?_
  refine xputM (ty := .int) hx hb hts hiX12 hown hG hw hS (by repeat first | assumption | exact wu_eq _ _ _ | refine wu_ne (by omega) ?_) 10 (by decide) hlnk0 rfl (by decide +kernel) rfl rfl dX12_forget_7 (fun H locs hzz hw hS => ?_)
  refine xiload_n hx hb dX12_forget_10 hl rfl ?_
  exact xiret hx hb hr hlk hw hS dX12_forget_11 ⟨rfl, ⟨_, _, hM.put (k := 10) (.int (nI 0)) (by decide), rm_forget hR⟩, Out.rf.wu (by omega) (by omega)⟩
set_option maxHeartbeats 4000000 in
set_option maxRecDepth 100000 in
theorem kX12_way (l : Launch) (N0 : Nat) (G : XG) (w : Wd) (M0 : Nat) (V : Nat → Value) (A : Nat → Nat → Int32) (hM : MW G w M0 V A) (S : QS) (hR : RM S V A) (hL : WB S) (hpa : ∀ i, i < sn S → ∀ x ∈ sp S i, x < sn S) (hsa : sA S ≤ 40) (x y z : Int32) : XM l yX12_way wsX12_way (rmD 5) N0 G [.ref M0, .int x, .int y, .int z] w vI (fun r w1 => (o_way S x y z).1 = r ∧ (∃ V1 A1, MW G w1 M0 V1 A1 ∧ RM ((o_way S x y z).2) V1 A1) ∧ Out w w1 M0 (M0 + 20)) 0 0 := by
  refine XM.of (cc := cX12_way) (maxL := 4) (ret := (some .int)) (by decide) rfl (Nat.le_of_ble_eq_true rfl) ?_
  intro p e s m below meth c hx hb hr hlk hin0 hml hown hts hN hw hG hS ls hl
  have hown : s.vm.findClass RX12 = some m.cls := hown
  have hiX12 : ∀ x ∈ u_ws RX12 TX12 37, x ∈ wsX12_way := by decide +kernel
  have hlnk0 := hts (.fieldLink RX12 94 "LentQuillModel" "people" "I") (by decide +kernel)
  have hlnk1 := hts (.fieldLink RX12 177 "LentQuillModel" "asks" "I") (by decide +kernel)
  have hl : lh ls 4 [some (.ref M0), some (.int x), some (.int y), some (.int z)] := hl
  obtain ⟨hm0, ⟨hv3, hv4, hv5, hv6, hv8, hv9, hv11, hv12, hv15, hv18, hv19, hv20, hv24, hv30, hv31, hv32, hv33, hv34, hv35⟩, ha1, ha2, ha3, ha4, ha5, ha6, ha7, ha8, ha9, ha10, ha11, ha12, ha13, ha14, ha15, ha16, ha17, ha18, ha19⟩ := id hM
  obtain ⟨ht, hn, hlm, hdn, hhn, has, hpl, hkw, hRB, hpg, hkp⟩ := id hR
  obtain ⟨hn5, hl5, hkd, hsp, hd6, hdw, hh6, hg18, hgr, hIm⟩ := id hL
  have hp2 := p2n hn5
  rcases inR_or x (sn S) with ⟨i, hi, hi31, rfl⟩ | hx1 <;> rcases inR_or y (2 ^ sn S) with ⟨k, hk, hk31, rfl⟩ | hy1 <;> rcases inR_or z 2 with ⟨t, ht2, ht31, rfl⟩ | hz1
  · skip
    refine xaload_n hx hb dX12_way_0 hl rfl ?_
    refine xiload_n hx hb dX12_way_1 hl rfl ?_
    refine xVi ⟨hx, hb, hml, hown, hts⟩ (kX12_isOne l N0 G _ _ V A hM S hR hL _) (cwV 1 hts gX12_way_X12_isOne rfl rfl rfl (by decide +kernel) ⟨Nat.le_of_ble_eq_true rfl, Nat.le_of_ble_eq_true rfl⟩) hG hN hw hS (ci := 12) (by repeat first | assumption | exact wu_eq _ _ _ | refine wu_ne (by omega) ?_) rfl rfl hl.1 rfl (Nat.le_of_ble_eq_true rfl) dX12_way_2 ⟨Nat.le_of_ble_eq_true rfl, Nat.le_of_ble_eq_true rfl⟩ (fun r2 w2 H locs hp2 hw hS => ?_)
    obtain ⟨rfl, rfl⟩ := hp2
    refine xtop (y := bI true) (congrArg bI (decide_eq_true (inR_nI hi (by omega)))) ?_
    first | refine xifb_ne (tgt := 11) hx hb dX12_way_5 (by decide) (fun c5 => ?_) (fun c5 => ?_) | refine xif_ne (tgt := 11) hx hb dX12_way_5 (by decide) (by omega) (fun c5 => ?_) (fun c5 => ?_) | refine lv_if_ne (tgt := 11) hx hb dX12_way_5 (by decide) (fun c5 => ?_) (fun c5 => ?_)
    · skip
      refine xiload_n hx hb dX12_way_11 hl rfl ?_
      refine lv_iconst (v := nI 0) hx hb dX12_way_12 (by decide) ?_
      refine lv_iconst (v := nI 1) hx hb dX12_way_13 (by decide) ?_
      refine xaload_n hx hb dX12_way_14 hl rfl ?_
      refine xgetM hx hb hts hiX12 hown hG hw (by repeat first | assumption | exact wu_eq _ _ _ | refine wu_ne (by omega) ?_) 1 (by decide) hlnk0 (by repeat first | assumption | exact vu_eq _ _ _ | refine vu_ne (by decide) ?_) dX12_way_15 ?_
      first | refine xshl hx hb dX12_way_18 (by omega) ?_ | refine lv_ishl hx hb dX12_way_18 ?_
      refine lv_iconst (v := nI 1) hx hb dX12_way_19 (by decide) ?_
      first | refine xsub hx hb dX12_way_20 (by omega) ?_ | refine lv_isub hx hb dX12_way_20 ?_
      refine xSi ⟨hx, hb, hml, hown, hts⟩ (kX12_within l N0 G _ _ _ _) (va_cwS 3 hts gX12_way_X12_within rfl rfl rfl (by decide +kernel) ⟨Nat.le_of_ble_eq_true rfl, Nat.le_of_ble_eq_true rfl⟩) hG hN hw hS rfl hl.1 rfl (Nat.le_of_ble_eq_true rfl) dX12_way_21 ⟨Nat.le_of_ble_eq_true rfl, Nat.le_of_ble_eq_true rfl⟩ (fun r21 w21 H locs hp21 hw hS => ?_)
      obtain ⟨rfl, rfl⟩ := hp21
      refine xtop (y := bI true) (congrArg bI (wiB_y (by omega) (by omega) (by omega))) ?_
      first | refine xifb_eq (tgt := 36) hx hb dX12_way_24 (by decide) (fun c24 => ?_) (fun c24 => ?_) | refine xif_eq (tgt := 36) hx hb dX12_way_24 (by decide) (by omega) (fun c24 => ?_) (fun c24 => ?_) | refine lv_if_eq (tgt := 36) hx hb dX12_way_24 (by decide) (fun c24 => ?_) (fun c24 => ?_)
      · skip
        exfalso
        cases c24
      · skip
        refine xiload_n hx hb dX12_way_27 hl rfl ?_
        refine lv_iconst (v := nI 0) hx hb dX12_way_28 (by decide) ?_
        refine lv_iconst (v := nI 1) hx hb dX12_way_29 (by decide) ?_
        refine xSi ⟨hx, hb, hml, hown, hts⟩ (kX12_within l N0 G _ _ _ _) (va_cwS 3 hts gX12_way_X12_within rfl rfl rfl (by decide +kernel) ⟨Nat.le_of_ble_eq_true rfl, Nat.le_of_ble_eq_true rfl⟩) hG hN hw hS rfl hl.1 rfl (Nat.le_of_ble_eq_true rfl) dX12_way_30 ⟨Nat.le_of_ble_eq_true rfl, Nat.le_of_ble_eq_true rfl⟩ (fun r30 w30 H locs hp30 hw hS => ?_)
        obtain ⟨rfl, rfl⟩ := hp30
        refine xtop (y := bI true) (congrArg bI (wiB_y (by omega) (by omega) (by omega))) ?_
        first | refine xifb_ne (tgt := 39) hx hb dX12_way_33 (by decide) (fun c33 => ?_) (fun c33 => ?_) | refine xif_ne (tgt := 39) hx hb dX12_way_33 (by decide) (by omega) (fun c33 => ?_) (fun c33 => ?_) | refine lv_if_ne (tgt := 39) hx hb dX12_way_33 (by decide) (fun c33 => ?_) (fun c33 => ?_)
        · skip
          refine xaload_n hx hb dX12_way_39 hl rfl ?_
          refine xgetM hx hb hts hiX12 hown hG hw (by repeat first | assumption | exact wu_eq _ _ _ | refine wu_ne (by omega) ?_) 13 (by decide) hlnk1 (by repeat first | assumption | exact vu_eq _ _ _ | refine vu_ne (by decide) ?_) dX12_way_40 ?_
          refine lv_bipush (v := nI 40) hx hb dX12_way_43 (by decide) ?_
          first | refine xcmp_ne (tgt := 51) hx hb dX12_way_45 (by decide) (by omega) (by omega) (fun c45 => ?_) (fun c45 => ?_) | refine lv_icmp_ne (tgt := 51) hx hb dX12_way_45 (by decide) (fun c45 => ?_) (fun c45 => ?_)
          · skip
            refine xaload_n hx hb dX12_way_51 hl rfl ?_
            refine lv_dup hx hb dX12_way_52 rfl ?_
            refine xgetM hx hb hts hiX12 hown hG hw (by repeat first | assumption | exact wu_eq _ _ _ | refine wu_ne (by omega) ?_) 13 (by decide) hlnk1 (by repeat first | assumption | exact vu_eq _ _ _ | refine vu_ne (by decide) ?_) dX12_way_53 ?_
            refine lv_iconst (v := nI 1) hx hb dX12_way_56 (by decide) ?_
            first | refine xadd hx hb dX12_way_57 ?_ | refine lv_iadd hx hb dX12_way_57 ?_
            refine xputM (ty := .int) hx hb hts hiX12 hown hG hw hS (by repeat first | assumption | exact wu_eq _ _ _ | refine wu_ne (by omega) ?_) 13 (by decide) hlnk1 rfl (by decide +kernel) rfl rfl dX12_way_58 (fun H locs hzz hw hS => ?_)
            have hM2 := hM.put (k := 13) (.int (nI (sA S + 1))) (by decide)
            have hR2 := rm_asks hR
            have hL2 : WB (askS S) := hL
            have hyes := way_y hi hi31 hk hk31 ht2 ht31 (show ¬ 40 ≤ sA S by omega)
            refine xaload_n hx hb dX12_way_61 hl rfl ?_
            refine xiload_n hx hb dX12_way_62 hl rfl ?_
            refine xiload_n hx hb dX12_way_63 hl rfl ?_
            refine xiload_n hx hb dX12_way_64 hl rfl ?_
            refine xVi ⟨hx, hb, hml, hown, hts⟩ (kX12_wayNow l N0 G _ _ _ A hM2 (askS S) hR2 hL2 i hi (hpa i hi) k t (by omega) ht2) (cwV 3 hts gX12_way_X12_wayNow rfl rfl rfl (by decide +kernel) ⟨Nat.le_of_ble_eq_true rfl, Nat.le_of_ble_eq_true rfl⟩) hG hN hw hS (ci := 12) (by repeat first | assumption | exact wu_eq _ _ _ | refine wu_ne (by omega) ?_) rfl rfl hl.1 rfl (Nat.le_of_ble_eq_true rfl) dX12_way_65 ⟨Nat.le_of_ble_eq_true rfl, Nat.le_of_ble_eq_true rfl⟩ (fun r65 w65 H locs hp65 hw hS => ?_)
            obtain ⟨rfl, V1, A1, hV1, hM1, hN1, hO1⟩ := hp65
            exact xiret hx hb hr hlk hw hS dX12_way_68 ⟨by rw [hyes]; rfl, ⟨V1, A1, hM1, by rw [hyes]; exact rm_vo (rm_nk hR2 hN1) hV1⟩, (Out.rf.wu (by omega) (by omega)).tr hO1 (Nat.le_refl _) (Nat.le_refl _)⟩
          · skip
            refine lv_bipush (v := -103) hx hb dX12_way_48 (by decide) ?_
            exact xiret hx hb hr hlk hw hS dX12_way_50 ⟨by rw [way_f hi hi31 hk hk31 ht2 ht31 (by omega)], ⟨V, A, hM, by rw [way_f hi hi31 hk hk31 ht2 ht31 (by omega)]; exact hR⟩, Out.rf⟩
        · skip
          exfalso
          cases c33
    · skip
      exfalso
      cases c5
  · skip
    refine xaload_n hx hb dX12_way_0 hl rfl ?_
    refine xiload_n hx hb dX12_way_1 hl rfl ?_
    refine xVi ⟨hx, hb, hml, hown, hts⟩ (kX12_isOne l N0 G _ _ V A hM S hR hL _) (cwV 1 hts gX12_way_X12_isOne rfl rfl rfl (by decide +kernel) ⟨Nat.le_of_ble_eq_true rfl, Nat.le_of_ble_eq_true rfl⟩) hG hN hw hS (ci := 12) (by repeat first | assumption | exact wu_eq _ _ _ | refine wu_ne (by omega) ?_) rfl rfl hl.1 rfl (Nat.le_of_ble_eq_true rfl) dX12_way_2 ⟨Nat.le_of_ble_eq_true rfl, Nat.le_of_ble_eq_true rfl⟩ (fun r2 w2 H locs hp2 hw hS => ?_)
    obtain ⟨rfl, rfl⟩ := hp2
    refine xtop (y := bI true) (congrArg bI (decide_eq_true (inR_nI hi (by omega)))) ?_
    first | refine xifb_ne (tgt := 11) hx hb dX12_way_5 (by decide) (fun c5 => ?_) (fun c5 => ?_) | refine xif_ne (tgt := 11) hx hb dX12_way_5 (by decide) (by omega) (fun c5 => ?_) (fun c5 => ?_) | refine lv_if_ne (tgt := 11) hx hb dX12_way_5 (by decide) (fun c5 => ?_) (fun c5 => ?_)
    · skip
      refine xiload_n hx hb dX12_way_11 hl rfl ?_
      refine lv_iconst (v := nI 0) hx hb dX12_way_12 (by decide) ?_
      refine lv_iconst (v := nI 1) hx hb dX12_way_13 (by decide) ?_
      refine xaload_n hx hb dX12_way_14 hl rfl ?_
      refine xgetM hx hb hts hiX12 hown hG hw (by repeat first | assumption | exact wu_eq _ _ _ | refine wu_ne (by omega) ?_) 1 (by decide) hlnk0 (by repeat first | assumption | exact vu_eq _ _ _ | refine vu_ne (by decide) ?_) dX12_way_15 ?_
      first | refine xshl hx hb dX12_way_18 (by omega) ?_ | refine lv_ishl hx hb dX12_way_18 ?_
      refine lv_iconst (v := nI 1) hx hb dX12_way_19 (by decide) ?_
      first | refine xsub hx hb dX12_way_20 (by omega) ?_ | refine lv_isub hx hb dX12_way_20 ?_
      refine xSi ⟨hx, hb, hml, hown, hts⟩ (kX12_within l N0 G _ _ _ _) (va_cwS 3 hts gX12_way_X12_within rfl rfl rfl (by decide +kernel) ⟨Nat.le_of_ble_eq_true rfl, Nat.le_of_ble_eq_true rfl⟩) hG hN hw hS rfl hl.1 rfl (Nat.le_of_ble_eq_true rfl) dX12_way_21 ⟨Nat.le_of_ble_eq_true rfl, Nat.le_of_ble_eq_true rfl⟩ (fun r21 w21 H locs hp21 hw hS => ?_)
      obtain ⟨rfl, rfl⟩ := hp21
      refine xtop (y := bI true) (congrArg bI (wiB_y (by omega) (by omega) (by omega))) ?_
      first | refine xifb_eq (tgt := 36) hx hb dX12_way_24 (by decide) (fun c24 => ?_) (fun c24 => ?_) | refine xif_eq (tgt := 36) hx hb dX12_way_24 (by decide) (by omega) (fun c24 => ?_) (fun c24 => ?_) | refine lv_if_eq (tgt := 36) hx hb dX12_way_24 (by decide) (fun c24 => ?_) (fun c24 => ?_)
      · skip
        exfalso
        cases c24
      · skip
        refine xiload_n hx hb dX12_way_27 hl rfl ?_
        refine lv_iconst (v := nI 0) hx hb dX12_way_28 (by decide) ?_
        refine lv_iconst (v := nI 1) hx hb dX12_way_29 (by decide) ?_
        refine xSi ⟨hx, hb, hml, hown, hts⟩ (kX12_within l N0 G _ _ _ _) (va_cwS 3 hts gX12_way_X12_within rfl rfl rfl (by decide +kernel) ⟨Nat.le_of_ble_eq_true rfl, Nat.le_of_ble_eq_true rfl⟩) hG hN hw hS rfl hl.1 rfl (Nat.le_of_ble_eq_true rfl) dX12_way_30 ⟨Nat.le_of_ble_eq_true rfl, Nat.le_of_ble_eq_true rfl⟩ (fun r30 w30 H locs hp30 hw hS => ?_)
        obtain ⟨rfl, rfl⟩ := hp30
        refine xtop (y := bI false) (congrArg bI (wiB_n hz1 (by omega))) ?_
        first | refine xifb_ne (tgt := 39) hx hb dX12_way_33 (by decide) (fun c33 => ?_) (fun c33 => ?_) | refine xif_ne (tgt := 39) hx hb dX12_way_33 (by decide) (by omega) (fun c33 => ?_) (fun c33 => ?_) | refine lv_if_ne (tgt := 39) hx hb dX12_way_33 (by decide) (fun c33 => ?_) (fun c33 => ?_)
        · skip
          exfalso
          cases c33
        · skip
          refine lv_bipush (v := -102) hx hb dX12_way_36 (by decide) ?_
          exact xiret hx hb hr hlk hw hS dX12_way_38 ⟨by rw [o_way, onR_in hi hi31, onR_in hk hk31, onR_out hz1], ⟨V, A, hM, by rw [o_way, onR_in hi hi31, onR_in hk hk31, onR_out hz1]; exact hR⟩, Out.rf⟩
    · skip
      exfalso
      cases c5
  · skip
    refine xaload_n hx hb dX12_way_0 hl rfl ?_
    refine xiload_n hx hb dX12_way_1 hl rfl ?_
    refine xVi ⟨hx, hb, hml, hown, hts⟩ (kX12_isOne l N0 G _ _ V A hM S hR hL _) (cwV 1 hts gX12_way_X12_isOne rfl rfl rfl (by decide +kernel) ⟨Nat.le_of_ble_eq_true rfl, Nat.le_of_ble_eq_true rfl⟩) hG hN hw hS (ci := 12) (by repeat first | assumption | exact wu_eq _ _ _ | refine wu_ne (by omega) ?_) rfl rfl hl.1 rfl (Nat.le_of_ble_eq_true rfl) dX12_way_2 ⟨Nat.le_of_ble_eq_true rfl, Nat.le_of_ble_eq_true rfl⟩ (fun r2 w2 H locs hp2 hw hS => ?_)
    obtain ⟨rfl, rfl⟩ := hp2
    refine xtop (y := bI true) (congrArg bI (decide_eq_true (inR_nI hi (by omega)))) ?_
    first | refine xifb_ne (tgt := 11) hx hb dX12_way_5 (by decide) (fun c5 => ?_) (fun c5 => ?_) | refine xif_ne (tgt := 11) hx hb dX12_way_5 (by decide) (by omega) (fun c5 => ?_) (fun c5 => ?_) | refine lv_if_ne (tgt := 11) hx hb dX12_way_5 (by decide) (fun c5 => ?_) (fun c5 => ?_)
    · skip
      refine xiload_n hx hb dX12_way_11 hl rfl ?_
      refine lv_iconst (v := nI 0) hx hb dX12_way_12 (by decide) ?_
      refine lv_iconst (v := nI 1) hx hb dX12_way_13 (by decide) ?_
      refine xaload_n hx hb dX12_way_14 hl rfl ?_
      refine xgetM hx hb hts hiX12 hown hG hw (by repeat first | assumption | exact wu_eq _ _ _ | refine wu_ne (by omega) ?_) 1 (by decide) hlnk0 (by repeat first | assumption | exact vu_eq _ _ _ | refine vu_ne (by decide) ?_) dX12_way_15 ?_
      first | refine xshl hx hb dX12_way_18 (by omega) ?_ | refine lv_ishl hx hb dX12_way_18 ?_
      refine lv_iconst (v := nI 1) hx hb dX12_way_19 (by decide) ?_
      first | refine xsub hx hb dX12_way_20 (by omega) ?_ | refine lv_isub hx hb dX12_way_20 ?_
      refine xSi ⟨hx, hb, hml, hown, hts⟩ (kX12_within l N0 G _ _ _ _) (va_cwS 3 hts gX12_way_X12_within rfl rfl rfl (by decide +kernel) ⟨Nat.le_of_ble_eq_true rfl, Nat.le_of_ble_eq_true rfl⟩) hG hN hw hS rfl hl.1 rfl (Nat.le_of_ble_eq_true rfl) dX12_way_21 ⟨Nat.le_of_ble_eq_true rfl, Nat.le_of_ble_eq_true rfl⟩ (fun r21 w21 H locs hp21 hw hS => ?_)
      obtain ⟨rfl, rfl⟩ := hp21
      refine xtop (y := bI false) (congrArg bI (wiB_n hy1 (by omega))) ?_
      first | refine xifb_eq (tgt := 36) hx hb dX12_way_24 (by decide) (fun c24 => ?_) (fun c24 => ?_) | refine xif_eq (tgt := 36) hx hb dX12_way_24 (by decide) (by omega) (fun c24 => ?_) (fun c24 => ?_) | refine lv_if_eq (tgt := 36) hx hb dX12_way_24 (by decide) (fun c24 => ?_) (fun c24 => ?_)
      · skip
        refine lv_bipush (v := -102) hx hb dX12_way_36 (by decide) ?_
        exact xiret hx hb hr hlk hw hS dX12_way_38 ⟨by rw [o_way, onR_in hi hi31, onR_out hy1], ⟨V, A, hM, by rw [o_way, onR_in hi hi31, onR_out hy1]; exact hR⟩, Out.rf⟩
      · skip
        exfalso
        cases c24
    · skip
      exfalso
      cases c5
  · skip
    refine xaload_n hx hb dX12_way_0 hl rfl ?_
    refine xiload_n hx hb dX12_way_1 hl rfl ?_
    refine xVi ⟨hx, hb, hml, hown, hts⟩ (kX12_isOne l N0 G _ _ V A hM S hR hL _) (cwV 1 hts gX12_way_X12_isOne rfl rfl rfl (by decide +kernel) ⟨Nat.le_of_ble_eq_true rfl, Nat.le_of_ble_eq_true rfl⟩) hG hN hw hS (ci := 12) (by repeat first | assumption | exact wu_eq _ _ _ | refine wu_ne (by omega) ?_) rfl rfl hl.1 rfl (Nat.le_of_ble_eq_true rfl) dX12_way_2 ⟨Nat.le_of_ble_eq_true rfl, Nat.le_of_ble_eq_true rfl⟩ (fun r2 w2 H locs hp2 hw hS => ?_)
    obtain ⟨rfl, rfl⟩ := hp2
    refine xtop (y := bI true) (congrArg bI (decide_eq_true (inR_nI hi (by omega)))) ?_
    first | refine xifb_ne (tgt := 11) hx hb dX12_way_5 (by decide) (fun c5 => ?_) (fun c5 => ?_) | refine xif_ne (tgt := 11) hx hb dX12_way_5 (by decide) (by omega) (fun c5 => ?_) (fun c5 => ?_) | refine lv_if_ne (tgt := 11) hx hb dX12_way_5 (by decide) (fun c5 => ?_) (fun c5 => ?_)
    · skip
      refine xiload_n hx hb dX12_way_11 hl rfl ?_
      refine lv_iconst (v := nI 0) hx hb dX12_way_12 (by decide) ?_
      refine lv_iconst (v := nI 1) hx hb dX12_way_13 (by decide) ?_
      refine xaload_n hx hb dX12_way_14 hl rfl ?_
      refine xgetM hx hb hts hiX12 hown hG hw (by repeat first | assumption | exact wu_eq _ _ _ | refine wu_ne (by omega) ?_) 1 (by decide) hlnk0 (by repeat first | assumption | exact vu_eq _ _ _ | refine vu_ne (by decide) ?_) dX12_way_15 ?_
      first | refine xshl hx hb dX12_way_18 (by omega) ?_ | refine lv_ishl hx hb dX12_way_18 ?_
      refine lv_iconst (v := nI 1) hx hb dX12_way_19 (by decide) ?_
      first | refine xsub hx hb dX12_way_20 (by omega) ?_ | refine lv_isub hx hb dX12_way_20 ?_
      refine xSi ⟨hx, hb, hml, hown, hts⟩ (kX12_within l N0 G _ _ _ _) (va_cwS 3 hts gX12_way_X12_within rfl rfl rfl (by decide +kernel) ⟨Nat.le_of_ble_eq_true rfl, Nat.le_of_ble_eq_true rfl⟩) hG hN hw hS rfl hl.1 rfl (Nat.le_of_ble_eq_true rfl) dX12_way_21 ⟨Nat.le_of_ble_eq_true rfl, Nat.le_of_ble_eq_true rfl⟩ (fun r21 w21 H locs hp21 hw hS => ?_)
      obtain ⟨rfl, rfl⟩ := hp21
      refine xtop (y := bI false) (congrArg bI (wiB_n hy1 (by omega))) ?_
      first | refine xifb_eq (tgt := 36) hx hb dX12_way_24 (by decide) (fun c24 => ?_) (fun c24 => ?_) | refine xif_eq (tgt := 36) hx hb dX12_way_24 (by decide) (by omega) (fun c24 => ?_) (fun c24 => ?_) | refine lv_if_eq (tgt := 36) hx hb dX12_way_24 (by decide) (fun c24 => ?_) (fun c24 => ?_)
      · skip
        refine lv_bipush (v := -102) hx hb dX12_way_36 (by decide) ?_
        exact xiret hx hb hr hlk hw hS dX12_way_38 ⟨by rw [o_way, onR_in hi hi31, onR_out hy1], ⟨V, A, hM, by rw [o_way, onR_in hi hi31, onR_out hy1]; exact hR⟩, Out.rf⟩
      · skip
        exfalso
        cases c24
    · skip
      exfalso
      cases c5
  · skip
    refine xaload_n hx hb dX12_way_0 hl rfl ?_
    refine xiload_n hx hb dX12_way_1 hl rfl ?_
    refine xVi ⟨hx, hb, hml, hown, hts⟩ (kX12_isOne l N0 G _ _ V A hM S hR hL _) (cwV 1 hts gX12_way_X12_isOne rfl rfl rfl (by decide +kernel) ⟨Nat.le_of_ble_eq_true rfl, Nat.le_of_ble_eq_true rfl⟩) hG hN hw hS (ci := 12) (by repeat first | assumption | exact wu_eq _ _ _ | refine wu_ne (by omega) ?_) rfl rfl hl.1 rfl (Nat.le_of_ble_eq_true rfl) dX12_way_2 ⟨Nat.le_of_ble_eq_true rfl, Nat.le_of_ble_eq_true rfl⟩ (fun r2 w2 H locs hp2 hw hS => ?_)
    obtain ⟨rfl, rfl⟩ := hp2
    refine xtop (y := bI false) (congrArg bI (decide_eq_false hx1)) ?_
    first | refine xifb_ne (tgt := 11) hx hb dX12_way_5 (by decide) (fun c5 => ?_) (fun c5 => ?_) | refine xif_ne (tgt := 11) hx hb dX12_way_5 (by decide) (by omega) (fun c5 => ?_) (fun c5 => ?_) | refine lv_if_ne (tgt := 11) hx hb dX12_way_5 (by decide) (fun c5 => ?_) (fun c5 => ?_)
    · skip
      exfalso
      cases c5
    · skip
      refine lv_bipush (v := -101) hx hb dX12_way_8 (by decide) ?_
      exact xiret hx hb hr hlk hw hS dX12_way_10 ⟨by rw [o_way, onR_out hx1], ⟨V, A, hM, by rw [o_way, onR_out hx1]; exact hR⟩, Out.rf⟩
  · skip
    refine xaload_n hx hb dX12_way_0 hl rfl ?_
    refine xiload_n hx hb dX12_way_1 hl rfl ?_
    refine xVi ⟨hx, hb, hml, hown, hts⟩ (kX12_isOne l N0 G _ _ V A hM S hR hL _) (cwV 1 hts gX12_way_X12_isOne rfl rfl rfl (by decide +kernel) ⟨Nat.le_of_ble_eq_true rfl, Nat.le_of_ble_eq_true rfl⟩) hG hN hw hS (ci := 12) (by repeat first | assumption | exact wu_eq _ _ _ | refine wu_ne (by omega) ?_) rfl rfl hl.1 rfl (Nat.le_of_ble_eq_true rfl) dX12_way_2 ⟨Nat.le_of_ble_eq_true rfl, Nat.le_of_ble_eq_true rfl⟩ (fun r2 w2 H locs hp2 hw hS => ?_)
    obtain ⟨rfl, rfl⟩ := hp2
    refine xtop (y := bI false) (congrArg bI (decide_eq_false hx1)) ?_
    first | refine xifb_ne (tgt := 11) hx hb dX12_way_5 (by decide) (fun c5 => ?_) (fun c5 => ?_) | refine xif_ne (tgt := 11) hx hb dX12_way_5 (by decide) (by omega) (fun c5 => ?_) (fun c5 => ?_) | refine lv_if_ne (tgt := 11) hx hb dX12_way_5 (by decide) (fun c5 => ?_) (fun c5 => ?_)
    · skip
      exfalso
      cases c5
    · skip
      refine lv_bipush (v := -101) hx hb dX12_way_8 (by decide) ?_
      exact xiret hx hb hr hlk hw hS dX12_way_10 ⟨by rw [o_way, onR_out hx1], ⟨V, A, hM, by rw [o_way, onR_out hx1]; exact hR⟩, Out.rf⟩
  · skip
    refine xaload_n hx hb dX12_way_0 hl rfl ?_
    refine xiload_n hx hb dX12_way_1 hl rfl ?_
    refine xVi ⟨hx, hb, hml, hown, hts⟩ (kX12_isOne l N0 G _ _ V A hM S hR hL _) (cwV 1 hts gX12_way_X12_isOne rfl rfl rfl (by decide +kernel) ⟨Nat.le_of_ble_eq_true rfl, Nat.le_of_ble_eq_true rfl⟩) hG hN hw hS (ci := 12) (by repeat first | assumption | exact wu_eq _ _ _ | refine wu_ne (by omega) ?_) rfl rfl hl.1 rfl (Nat.le_of_ble_eq_true rfl) dX12_way_2 ⟨Nat.le_of_ble_eq_true rfl, Nat.le_of_ble_eq_true rfl⟩ (fun r2 w2 H locs hp2 hw hS => ?_)
    obtain ⟨rfl, rfl⟩ := hp2
    refine xtop (y := bI false) (congrArg bI (decide_eq_false hx1)) ?_
    first | refine xifb_ne (tgt := 11) hx hb dX12_way_5 (by decide) (fun c5 => ?_) (fun c5 => ?_) | refine xif_ne (tgt := 11) hx hb dX12_way_5 (by decide) (by omega) (fun c5 => ?_) (fun c5 => ?_) | refine lv_if_ne (tgt := 11) hx hb dX12_way_5 (by decide) (fun c5 => ?_) (fun c5 => ?_)
    · skip
      exfalso
      cases c5
    · skip
      refine lv_bipush (v := -101) hx hb dX12_way_8 (by decide) ?_
      exact xiret hx hb hr hlk hw hS dX12_way_10 ⟨by rw [o_way, onR_out hx1], ⟨V, A, hM, by rw [o_way, onR_out hx1]; exact hR⟩, Out.rf⟩
  · skip
    refine xaload_n hx hb dX12_way_0 hl rfl ?_
    refine xiload_n hx hb dX12_way_1 hl rfl ?_
    refine xVi ⟨hx, hb, hml, hown, hts⟩ (kX12_isOne l N0 G _ _ V A hM S hR hL _) (cwV 1 hts gX12_way_X12_isOne rfl rfl rfl (by decide +kernel) ⟨Nat.le_of_ble_eq_true rfl, Nat.le_of_ble_eq_true rfl⟩) hG hN hw hS (ci := 12) (by repeat first | assumption | exact wu_eq _ _ _ | refine wu_ne (by omega) ?_) rfl rfl hl.1 rfl (Nat.le_of_ble_eq_true rfl) dX12_way_2 ⟨Nat.le_of_ble_eq_true rfl, Nat.le_of_ble_eq_true rfl⟩ (fun r2 w2 H locs hp2 hw hS => ?_)
    obtain ⟨rfl, rfl⟩ := hp2
    refine xtop (y := bI false) (congrArg bI (decide_eq_false hx1)) ?_
    first | refine xifb_ne (tgt := 11) hx hb dX12_way_5 (by decide) (fun c5 => ?_) (fun c5 => ?_) | refine xif_ne (tgt := 11) hx hb dX12_way_5 (by decide) (by omega) (fun c5 => ?_) (fun c5 => ?_) | refine lv_if_ne (tgt := 11) hx hb dX12_way_5 (by decide) (fun c5 => ?_) (fun c5 => ?_)
    · skip
      exfalso
      cases c5
    · skip
      refine lv_bipush (v := -101) hx hb dX12_way_8 (by decide) ?_
      exact xiret hx hb hr hlk hw hS dX12_way_10 ⟨by rw [o_way, onR_out hx1], ⟨V, A, hM, by rw [o_way, onR_out hx1]; exact hR⟩, Out.rf⟩
set_option maxHeartbeats 4000000 in
set_option maxRecDepth 100000 in
theorem kX12_hands (l : Launch) (N0 : Nat) (G : XG) (w : Wd) (M0 : Nat) (V : Nat → Value) (A : Nat → Nat → Int32) (hM : MW G w M0 V A) (S : QS) (hR : RM S V A) (hL : WB S) (hpa : ∀ i, i < sn S → ∀ x ∈ sp S i, x < sn S) (hhd : ∀ q ∈ sh S, q.1 < sn S) (x y z : Int32) : XM l yX12_hands wsX12_hands (rmD 6) N0 G [.ref M0, .int x, .int y, .int z] w vI (fun r w1 => v_hands S x y z = r ∧ (∃ V1 A1, MW G w1 M0 V1 A1 ∧ RM (S) V1 A1) ∧ Out w w1 M0 (M0 + 20)) 0 0 := by
  refine XM.of (cc := cX12_hands) (maxL := 4) (ret := (some .int)) (by decide) rfl (Nat.le_of_ble_eq_true rfl) ?_
  intro p e s m below meth c hx hb hr hlk hin0 hml hown hts hN hw hG hS ls hl
  have hown : s.vm.findClass RX12 = some m.cls := hown
  have hl : lh ls 4 [some (.ref M0), some (.int x), some (.int y), some (.int z)] := hl
  obtain ⟨hm0, ⟨hv3, hv4, hv5, hv6, hv8, hv9, hv11, hv12, hv15, hv18, hv19, hv20, hv24, hv30, hv31, hv32, hv33, hv34, hv35⟩, ha1, ha2, ha3, ha4, ha5, ha6, ha7, ha8, ha9, ha10, ha11, ha12, ha13, ha14, ha15, ha16, ha17, ha18, ha19⟩ := id hM
  obtain ⟨ht, hn, hlm, hdn, hhn, has, hpl, hkw, hRB, hpg, hkp⟩ := id hR
  obtain ⟨hn5, hl5, hkd, hsp, hd6, hdw, hh6, hg18, hgr, hIm⟩ := id hL
  rcases inR_or x (sn S) with ⟨i, hi, hi31, rfl⟩ | hx1 <;> rcases inR_or y 5 with ⟨k, hk, hk31, rfl⟩ | hy1 <;> rcases inR_or z 2 with ⟨t, ht2, ht31, rfl⟩ | hz1
  · skip
    refine xaload_n hx hb dX12_hands_0 hl rfl ?_
    refine xiload_n hx hb dX12_hands_1 hl rfl ?_
    refine xVi ⟨hx, hb, hml, hown, hts⟩ (kX12_isOne l N0 G _ _ V A hM S hR hL _) (cwV 1 hts gX12_hands_X12_isOne rfl rfl rfl (by decide +kernel) ⟨Nat.le_of_ble_eq_true rfl, Nat.le_of_ble_eq_true rfl⟩) hG hN hw hS (ci := 12) (by repeat first | assumption | exact wu_eq _ _ _ | refine wu_ne (by omega) ?_) rfl rfl hl.1 rfl (Nat.le_of_ble_eq_true rfl) dX12_hands_2 ⟨Nat.le_of_ble_eq_true rfl, Nat.le_of_ble_eq_true rfl⟩ (fun r2 w2 H locs hp2 hw hS => ?_)
    obtain ⟨rfl, rfl⟩ := hp2
    refine xtop (y := bI true) (congrArg bI (decide_eq_true (inR_nI hi (by omega)))) ?_
    first | refine xifb_ne (tgt := 11) hx hb dX12_hands_5 (by decide) (fun c5 => ?_) (fun c5 => ?_) | refine xif_ne (tgt := 11) hx hb dX12_hands_5 (by decide) (by omega) (fun c5 => ?_) (fun c5 => ?_) | refine lv_if_ne (tgt := 11) hx hb dX12_hands_5 (by decide) (fun c5 => ?_) (fun c5 => ?_)
    · skip
      refine xiload_n hx hb dX12_hands_11 hl rfl ?_
      refine lv_iconst (v := nI 0) hx hb dX12_hands_12 (by decide) ?_
      refine lv_iconst (v := nI 4) hx hb dX12_hands_13 (by decide) ?_
      refine xSi ⟨hx, hb, hml, hown, hts⟩ (kX12_within l N0 G _ _ _ _) (va_cwS 3 hts gX12_hands_X12_within rfl rfl rfl (by decide +kernel) ⟨Nat.le_of_ble_eq_true rfl, Nat.le_of_ble_eq_true rfl⟩) hG hN hw hS rfl hl.1 rfl (Nat.le_of_ble_eq_true rfl) dX12_hands_14 ⟨Nat.le_of_ble_eq_true rfl, Nat.le_of_ble_eq_true rfl⟩ (fun r14 w14 H locs hp14 hw hS => ?_)
      obtain ⟨rfl, rfl⟩ := hp14
      refine xtop (y := bI true) (congrArg bI (wiB_y (by omega) (by omega) (by omega))) ?_
      first | refine xifb_eq (tgt := 39) hx hb dX12_hands_17 (by decide) (fun c17 => ?_) (fun c17 => ?_) | refine xif_eq (tgt := 39) hx hb dX12_hands_17 (by decide) (by omega) (fun c17 => ?_) (fun c17 => ?_) | refine lv_if_eq (tgt := 39) hx hb dX12_hands_17 (by decide) (fun c17 => ?_) (fun c17 => ?_)
      · skip
        exfalso
        cases c17
      · skip
        refine xiload_n hx hb dX12_hands_20 hl rfl ?_
        refine lv_iconst (v := nI 0) hx hb dX12_hands_21 (by decide) ?_
        refine lv_iconst (v := nI 1) hx hb dX12_hands_22 (by decide) ?_
        refine xSi ⟨hx, hb, hml, hown, hts⟩ (kX12_within l N0 G _ _ _ _) (va_cwS 3 hts gX12_hands_X12_within rfl rfl rfl (by decide +kernel) ⟨Nat.le_of_ble_eq_true rfl, Nat.le_of_ble_eq_true rfl⟩) hG hN hw hS rfl hl.1 rfl (Nat.le_of_ble_eq_true rfl) dX12_hands_23 ⟨Nat.le_of_ble_eq_true rfl, Nat.le_of_ble_eq_true rfl⟩ (fun r23 w23 H locs hp23 hw hS => ?_)
        obtain ⟨rfl, rfl⟩ := hp23
        refine xtop (y := bI true) (congrArg bI (wiB_y (by omega) (by omega) (by omega))) ?_
        first | refine xifb_eq (tgt := 39) hx hb dX12_hands_26 (by decide) (fun c26 => ?_) (fun c26 => ?_) | refine xif_eq (tgt := 39) hx hb dX12_hands_26 (by decide) (by omega) (fun c26 => ?_) (fun c26 => ?_) | refine lv_if_eq (tgt := 39) hx hb dX12_hands_26 (by decide) (fun c26 => ?_) (fun c26 => ?_)
        · skip
          exfalso
          cases c26
        · skip
          refine xaload_n hx hb dX12_hands_29 hl rfl ?_
          refine xiload_n hx hb dX12_hands_30 hl rfl ?_
          refine xiload_n hx hb dX12_hands_31 hl rfl ?_
          refine xiload_n hx hb dX12_hands_32 hl rfl ?_
          refine xVi ⟨hx, hb, hml, hown, hts⟩ (kX12_handsNow l N0 G _ _ V A hM S hR hL i hi (hpa i hi) hhd k (by omega) t ht2) (cwV 3 hts gX12_hands_X12_handsNow rfl rfl rfl (by decide +kernel) ⟨Nat.le_of_ble_eq_true rfl, Nat.le_of_ble_eq_true rfl⟩) hG hN hw hS (ci := 12) (by repeat first | assumption | exact wu_eq _ _ _ | refine wu_ne (by omega) ?_) rfl rfl hl.1 rfl (Nat.le_of_ble_eq_true rfl) dX12_hands_33 ⟨Nat.le_of_ble_eq_true rfl, Nat.le_of_ble_eq_true rfl⟩ (fun r33 w33 H locs hp33 hw hS => ?_)
          obtain ⟨rfl, V1, A1, hV1, hA1, hM1, hO1⟩ := hp33
          refine lv_goto (tgt := 41) hx hb dX12_hands_36 (by decide) ?_
          exact xiret hx hb hr hlk hw hS dX12_hands_41 ⟨by rw [v_hands, onR_in hi hi31, onR_in hk hk31, onR_in ht2 ht31], ⟨V1, A1, hM1, rm_h hR hV1 hA1⟩, hO1⟩
    · skip
      exfalso
      cases c5
  · skip
    refine xaload_n hx hb dX12_hands_0 hl rfl ?_
    refine xiload_n hx hb dX12_hands_1 hl rfl ?_
    refine xVi ⟨hx, hb, hml, hown, hts⟩ (kX12_isOne l N0 G _ _ V A hM S hR hL _) (cwV 1 hts gX12_hands_X12_isOne rfl rfl rfl (by decide +kernel) ⟨Nat.le_of_ble_eq_true rfl, Nat.le_of_ble_eq_true rfl⟩) hG hN hw hS (ci := 12) (by repeat first | assumption | exact wu_eq _ _ _ | refine wu_ne (by omega) ?_) rfl rfl hl.1 rfl (Nat.le_of_ble_eq_true rfl) dX12_hands_2 ⟨Nat.le_of_ble_eq_true rfl, Nat.le_of_ble_eq_true rfl⟩ (fun r2 w2 H locs hp2 hw hS => ?_)
    obtain ⟨rfl, rfl⟩ := hp2
    refine xtop (y := bI true) (congrArg bI (decide_eq_true (inR_nI hi (by omega)))) ?_
    first | refine xifb_ne (tgt := 11) hx hb dX12_hands_5 (by decide) (fun c5 => ?_) (fun c5 => ?_) | refine xif_ne (tgt := 11) hx hb dX12_hands_5 (by decide) (by omega) (fun c5 => ?_) (fun c5 => ?_) | refine lv_if_ne (tgt := 11) hx hb dX12_hands_5 (by decide) (fun c5 => ?_) (fun c5 => ?_)
    · skip
      refine xiload_n hx hb dX12_hands_11 hl rfl ?_
      refine lv_iconst (v := nI 0) hx hb dX12_hands_12 (by decide) ?_
      refine lv_iconst (v := nI 4) hx hb dX12_hands_13 (by decide) ?_
      refine xSi ⟨hx, hb, hml, hown, hts⟩ (kX12_within l N0 G _ _ _ _) (va_cwS 3 hts gX12_hands_X12_within rfl rfl rfl (by decide +kernel) ⟨Nat.le_of_ble_eq_true rfl, Nat.le_of_ble_eq_true rfl⟩) hG hN hw hS rfl hl.1 rfl (Nat.le_of_ble_eq_true rfl) dX12_hands_14 ⟨Nat.le_of_ble_eq_true rfl, Nat.le_of_ble_eq_true rfl⟩ (fun r14 w14 H locs hp14 hw hS => ?_)
      obtain ⟨rfl, rfl⟩ := hp14
      refine xtop (y := bI true) (congrArg bI (wiB_y (by omega) (by omega) (by omega))) ?_
      first | refine xifb_eq (tgt := 39) hx hb dX12_hands_17 (by decide) (fun c17 => ?_) (fun c17 => ?_) | refine xif_eq (tgt := 39) hx hb dX12_hands_17 (by decide) (by omega) (fun c17 => ?_) (fun c17 => ?_) | refine lv_if_eq (tgt := 39) hx hb dX12_hands_17 (by decide) (fun c17 => ?_) (fun c17 => ?_)
      · skip
        exfalso
        cases c17
      · skip
        refine xiload_n hx hb dX12_hands_20 hl rfl ?_
        refine lv_iconst (v := nI 0) hx hb dX12_hands_21 (by decide) ?_
        refine lv_iconst (v := nI 1) hx hb dX12_hands_22 (by decide) ?_
        refine xSi ⟨hx, hb, hml, hown, hts⟩ (kX12_within l N0 G _ _ _ _) (va_cwS 3 hts gX12_hands_X12_within rfl rfl rfl (by decide +kernel) ⟨Nat.le_of_ble_eq_true rfl, Nat.le_of_ble_eq_true rfl⟩) hG hN hw hS rfl hl.1 rfl (Nat.le_of_ble_eq_true rfl) dX12_hands_23 ⟨Nat.le_of_ble_eq_true rfl, Nat.le_of_ble_eq_true rfl⟩ (fun r23 w23 H locs hp23 hw hS => ?_)
        obtain ⟨rfl, rfl⟩ := hp23
        refine xtop (y := bI false) (congrArg bI (wiB_n hz1 (by omega))) ?_
        first | refine xifb_eq (tgt := 39) hx hb dX12_hands_26 (by decide) (fun c26 => ?_) (fun c26 => ?_) | refine xif_eq (tgt := 39) hx hb dX12_hands_26 (by decide) (by omega) (fun c26 => ?_) (fun c26 => ?_) | refine lv_if_eq (tgt := 39) hx hb dX12_hands_26 (by decide) (fun c26 => ?_) (fun c26 => ?_)
        · skip
          refine lv_bipush (v := -102) hx hb dX12_hands_39 (by decide) ?_
          exact xiret hx hb hr hlk hw hS dX12_hands_41 ⟨by rw [v_hands, onR_in hi hi31, onR_in hk hk31, onR_out hz1], ⟨V, A, hM, hR⟩, Out.rf⟩
        · skip
          exfalso
          cases c26
    · skip
      exfalso
      cases c5
  · skip
    refine xaload_n hx hb dX12_hands_0 hl rfl ?_
    refine xiload_n hx hb dX12_hands_1 hl rfl ?_
    refine xVi ⟨hx, hb, hml, hown, hts⟩ (kX12_isOne l N0 G _ _ V A hM S hR hL _) (cwV 1 hts gX12_hands_X12_isOne rfl rfl rfl (by decide +kernel) ⟨Nat.le_of_ble_eq_true rfl, Nat.le_of_ble_eq_true rfl⟩) hG hN hw hS (ci := 12) (by repeat first | assumption | exact wu_eq _ _ _ | refine wu_ne (by omega) ?_) rfl rfl hl.1 rfl (Nat.le_of_ble_eq_true rfl) dX12_hands_2 ⟨Nat.le_of_ble_eq_true rfl, Nat.le_of_ble_eq_true rfl⟩ (fun r2 w2 H locs hp2 hw hS => ?_)
    obtain ⟨rfl, rfl⟩ := hp2
    refine xtop (y := bI true) (congrArg bI (decide_eq_true (inR_nI hi (by omega)))) ?_
    first | refine xifb_ne (tgt := 11) hx hb dX12_hands_5 (by decide) (fun c5 => ?_) (fun c5 => ?_) | refine xif_ne (tgt := 11) hx hb dX12_hands_5 (by decide) (by omega) (fun c5 => ?_) (fun c5 => ?_) | refine lv_if_ne (tgt := 11) hx hb dX12_hands_5 (by decide) (fun c5 => ?_) (fun c5 => ?_)
    · skip
      refine xiload_n hx hb dX12_hands_11 hl rfl ?_
      refine lv_iconst (v := nI 0) hx hb dX12_hands_12 (by decide) ?_
      refine lv_iconst (v := nI 4) hx hb dX12_hands_13 (by decide) ?_
      refine xSi ⟨hx, hb, hml, hown, hts⟩ (kX12_within l N0 G _ _ _ _) (va_cwS 3 hts gX12_hands_X12_within rfl rfl rfl (by decide +kernel) ⟨Nat.le_of_ble_eq_true rfl, Nat.le_of_ble_eq_true rfl⟩) hG hN hw hS rfl hl.1 rfl (Nat.le_of_ble_eq_true rfl) dX12_hands_14 ⟨Nat.le_of_ble_eq_true rfl, Nat.le_of_ble_eq_true rfl⟩ (fun r14 w14 H locs hp14 hw hS => ?_)
      obtain ⟨rfl, rfl⟩ := hp14
      refine xtop (y := bI false) (congrArg bI (wiB_n hy1 (by omega))) ?_
      first | refine xifb_eq (tgt := 39) hx hb dX12_hands_17 (by decide) (fun c17 => ?_) (fun c17 => ?_) | refine xif_eq (tgt := 39) hx hb dX12_hands_17 (by decide) (by omega) (fun c17 => ?_) (fun c17 => ?_) | refine lv_if_eq (tgt := 39) hx hb dX12_hands_17 (by decide) (fun c17 => ?_) (fun c17 => ?_)
      · skip
        refine lv_bipush (v := -102) hx hb dX12_hands_39 (by decide) ?_
        exact xiret hx hb hr hlk hw hS dX12_hands_41 ⟨by rw [v_hands, onR_in hi hi31, onR_out hy1], ⟨V, A, hM, hR⟩, Out.rf⟩
      · skip
        exfalso
        cases c17
    · skip
      exfalso
      cases c5
  · skip
    refine xaload_n hx hb dX12_hands_0 hl rfl ?_
    refine xiload_n hx hb dX12_hands_1 hl rfl ?_
    refine xVi ⟨hx, hb, hml, hown, hts⟩ (kX12_isOne l N0 G _ _ V A hM S hR hL _) (cwV 1 hts gX12_hands_X12_isOne rfl rfl rfl (by decide +kernel) ⟨Nat.le_of_ble_eq_true rfl, Nat.le_of_ble_eq_true rfl⟩) hG hN hw hS (ci := 12) (by repeat first | assumption | exact wu_eq _ _ _ | refine wu_ne (by omega) ?_) rfl rfl hl.1 rfl (Nat.le_of_ble_eq_true rfl) dX12_hands_2 ⟨Nat.le_of_ble_eq_true rfl, Nat.le_of_ble_eq_true rfl⟩ (fun r2 w2 H locs hp2 hw hS => ?_)
    obtain ⟨rfl, rfl⟩ := hp2
    refine xtop (y := bI true) (congrArg bI (decide_eq_true (inR_nI hi (by omega)))) ?_
    first | refine xifb_ne (tgt := 11) hx hb dX12_hands_5 (by decide) (fun c5 => ?_) (fun c5 => ?_) | refine xif_ne (tgt := 11) hx hb dX12_hands_5 (by decide) (by omega) (fun c5 => ?_) (fun c5 => ?_) | refine lv_if_ne (tgt := 11) hx hb dX12_hands_5 (by decide) (fun c5 => ?_) (fun c5 => ?_)
    · skip
      refine xiload_n hx hb dX12_hands_11 hl rfl ?_
      refine lv_iconst (v := nI 0) hx hb dX12_hands_12 (by decide) ?_
      refine lv_iconst (v := nI 4) hx hb dX12_hands_13 (by decide) ?_
      refine xSi ⟨hx, hb, hml, hown, hts⟩ (kX12_within l N0 G _ _ _ _) (va_cwS 3 hts gX12_hands_X12_within rfl rfl rfl (by decide +kernel) ⟨Nat.le_of_ble_eq_true rfl, Nat.le_of_ble_eq_true rfl⟩) hG hN hw hS rfl hl.1 rfl (Nat.le_of_ble_eq_true rfl) dX12_hands_14 ⟨Nat.le_of_ble_eq_true rfl, Nat.le_of_ble_eq_true rfl⟩ (fun r14 w14 H locs hp14 hw hS => ?_)
      obtain ⟨rfl, rfl⟩ := hp14
      refine xtop (y := bI false) (congrArg bI (wiB_n hy1 (by omega))) ?_
      first | refine xifb_eq (tgt := 39) hx hb dX12_hands_17 (by decide) (fun c17 => ?_) (fun c17 => ?_) | refine xif_eq (tgt := 39) hx hb dX12_hands_17 (by decide) (by omega) (fun c17 => ?_) (fun c17 => ?_) | refine lv_if_eq (tgt := 39) hx hb dX12_hands_17 (by decide) (fun c17 => ?_) (fun c17 => ?_)
      · skip
        refine lv_bipush (v := -102) hx hb dX12_hands_39 (by decide) ?_
        exact xiret hx hb hr hlk hw hS dX12_hands_41 ⟨by rw [v_hands, onR_in hi hi31, onR_out hy1], ⟨V, A, hM, hR⟩, Out.rf⟩
      · skip
        exfalso
        cases c17
    · skip
      exfalso
      cases c5
  · skip
    refine xaload_n hx hb dX12_hands_0 hl rfl ?_
    refine xiload_n hx hb dX12_hands_1 hl rfl ?_
    refine xVi ⟨hx, hb, hml, hown, hts⟩ (kX12_isOne l N0 G _ _ V A hM S hR hL _) (cwV 1 hts gX12_hands_X12_isOne rfl rfl rfl (by decide +kernel) ⟨Nat.le_of_ble_eq_true rfl, Nat.le_of_ble_eq_true rfl⟩) hG hN hw hS (ci := 12) (by repeat first | assumption | exact wu_eq _ _ _ | refine wu_ne (by omega) ?_) rfl rfl hl.1 rfl (Nat.le_of_ble_eq_true rfl) dX12_hands_2 ⟨Nat.le_of_ble_eq_true rfl, Nat.le_of_ble_eq_true rfl⟩ (fun r2 w2 H locs hp2 hw hS => ?_)
    obtain ⟨rfl, rfl⟩ := hp2
    refine xtop (y := bI false) (congrArg bI (decide_eq_false hx1)) ?_
    first | refine xifb_ne (tgt := 11) hx hb dX12_hands_5 (by decide) (fun c5 => ?_) (fun c5 => ?_) | refine xif_ne (tgt := 11) hx hb dX12_hands_5 (by decide) (by omega) (fun c5 => ?_) (fun c5 => ?_) | refine lv_if_ne (tgt := 11) hx hb dX12_hands_5 (by decide) (fun c5 => ?_) (fun c5 => ?_)
    · skip
      exfalso
      cases c5
    · skip
      refine lv_bipush (v := -101) hx hb dX12_hands_8 (by decide) ?_
      exact xiret hx hb hr hlk hw hS dX12_hands_10 ⟨by rw [v_hands, onR_out hx1], ⟨V, A, hM, hR⟩, Out.rf⟩
  · skip
    refine xaload_n hx hb dX12_hands_0 hl rfl ?_
    refine xiload_n hx hb dX12_hands_1 hl rfl ?_
    refine xVi ⟨hx, hb, hml, hown, hts⟩ (kX12_isOne l N0 G _ _ V A hM S hR hL _) (cwV 1 hts gX12_hands_X12_isOne rfl rfl rfl (by decide +kernel) ⟨Nat.le_of_ble_eq_true rfl, Nat.le_of_ble_eq_true rfl⟩) hG hN hw hS (ci := 12) (by repeat first | assumption | exact wu_eq _ _ _ | refine wu_ne (by omega) ?_) rfl rfl hl.1 rfl (Nat.le_of_ble_eq_true rfl) dX12_hands_2 ⟨Nat.le_of_ble_eq_true rfl, Nat.le_of_ble_eq_true rfl⟩ (fun r2 w2 H locs hp2 hw hS => ?_)
    obtain ⟨rfl, rfl⟩ := hp2
    refine xtop (y := bI false) (congrArg bI (decide_eq_false hx1)) ?_
    first | refine xifb_ne (tgt := 11) hx hb dX12_hands_5 (by decide) (fun c5 => ?_) (fun c5 => ?_) | refine xif_ne (tgt := 11) hx hb dX12_hands_5 (by decide) (by omega) (fun c5 => ?_) (fun c5 => ?_) | refine lv_if_ne (tgt := 11) hx hb dX12_hands_5 (by decide) (fun c5 => ?_) (fun c5 => ?_)
    · skip
      exfalso
      cases c5
    · skip
      refine lv_bipush (v := -101) hx hb dX12_hands_8 (by decide) ?_
      exact xiret hx hb hr hlk hw hS dX12_hands_10 ⟨by rw [v_hands, onR_out hx1], ⟨V, A, hM, hR⟩, Out.rf⟩
  · skip
    refine xaload_n hx hb dX12_hands_0 hl rfl ?_
    refine xiload_n hx hb dX12_hands_1 hl rfl ?_
    refine xVi ⟨hx, hb, hml, hown, hts⟩ (kX12_isOne l N0 G _ _ V A hM S hR hL _) (cwV 1 hts gX12_hands_X12_isOne rfl rfl rfl (by decide +kernel) ⟨Nat.le_of_ble_eq_true rfl, Nat.le_of_ble_eq_true rfl⟩) hG hN hw hS (ci := 12) (by repeat first | assumption | exact wu_eq _ _ _ | refine wu_ne (by omega) ?_) rfl rfl hl.1 rfl (Nat.le_of_ble_eq_true rfl) dX12_hands_2 ⟨Nat.le_of_ble_eq_true rfl, Nat.le_of_ble_eq_true rfl⟩ (fun r2 w2 H locs hp2 hw hS => ?_)
    obtain ⟨rfl, rfl⟩ := hp2
    refine xtop (y := bI false) (congrArg bI (decide_eq_false hx1)) ?_
    first | refine xifb_ne (tgt := 11) hx hb dX12_hands_5 (by decide) (fun c5 => ?_) (fun c5 => ?_) | refine xif_ne (tgt := 11) hx hb dX12_hands_5 (by decide) (by omega) (fun c5 => ?_) (fun c5 => ?_) | refine lv_if_ne (tgt := 11) hx hb dX12_hands_5 (by decide) (fun c5 => ?_) (fun c5 => ?_)
    · skip
      exfalso
      cases c5
    · skip
      refine lv_bipush (v := -101) hx hb dX12_hands_8 (by decide) ?_
      exact xiret hx hb hr hlk hw hS dX12_hands_10 ⟨by rw [v_hands, onR_out hx1], ⟨V, A, hM, hR⟩, Out.rf⟩
  · skip
    refine xaload_n hx hb dX12_hands_0 hl rfl ?_
    refine xiload_n hx hb dX12_hands_1 hl rfl ?_
    refine xVi ⟨hx, hb, hml, hown, hts⟩ (kX12_isOne l N0 G _ _ V A hM S hR hL _) (cwV 1 hts gX12_hands_X12_isOne rfl rfl rfl (by decide +kernel) ⟨Nat.le_of_ble_eq_true rfl, Nat.le_of_ble_eq_true rfl⟩) hG hN hw hS (ci := 12) (by repeat first | assumption | exact wu_eq _ _ _ | refine wu_ne (by omega) ?_) rfl rfl hl.1 rfl (Nat.le_of_ble_eq_true rfl) dX12_hands_2 ⟨Nat.le_of_ble_eq_true rfl, Nat.le_of_ble_eq_true rfl⟩ (fun r2 w2 H locs hp2 hw hS => ?_)
    obtain ⟨rfl, rfl⟩ := hp2
    refine xtop (y := bI false) (congrArg bI (decide_eq_false hx1)) ?_
    first | refine xifb_ne (tgt := 11) hx hb dX12_hands_5 (by decide) (fun c5 => ?_) (fun c5 => ?_) | refine xif_ne (tgt := 11) hx hb dX12_hands_5 (by decide) (by omega) (fun c5 => ?_) (fun c5 => ?_) | refine lv_if_ne (tgt := 11) hx hb dX12_hands_5 (by decide) (fun c5 => ?_) (fun c5 => ?_)
    · skip
      exfalso
      cases c5
    · skip
      refine lv_bipush (v := -101) hx hb dX12_hands_8 (by decide) ?_
      exact xiret hx hb hr hlk hw hS dX12_hands_10 ⟨by rw [v_hands, onR_out hx1], ⟨V, A, hM, hR⟩, Out.rf⟩
set_option maxHeartbeats 4000000 in
set_option maxRecDepth 100000 in
theorem kX12_ask (l : Launch) (N0 : Nat) (G : XG) (w : Wd) (M0 : Nat) (V : Nat → Value) (A : Nat → Nat → Int32) (hM : MW G w M0 V A) (S : QS) (hR : RM S V A) (hL : WB S) (hpa : ∀ i, i < sn S → ∀ x ∈ sp S i, x < sn S) (hhd : ∀ q ∈ sh S, q.1 < sn S) (x y : Int32) : XM l yX12_ask wsX12_ask (rmD 6) N0 G [.ref M0, .int x, .int y] w vI (fun r w1 => v_ask S x y = r ∧ (∃ V1 A1, MW G w1 M0 V1 A1 ∧ RM (S) V1 A1) ∧ Out w w1 M0 (M0 + 20)) 0 0 := by
  refine XM.of (cc := cX12_ask) (maxL := 3) (ret := (some .int)) (by decide) rfl (Nat.le_of_ble_eq_true rfl) ?_
  intro p e s m below meth c hx hb hr hlk hin0 hml hown hts hN hw hG hS ls hl
  have hown : s.vm.findClass RX12 = some m.cls := hown
  have hl : lh ls 3 [some (.ref M0), some (.int x), some (.int y)] := hl
  obtain ⟨hm0, ⟨hv3, hv4, hv5, hv6, hv8, hv9, hv11, hv12, hv15, hv18, hv19, hv20, hv24, hv30, hv31, hv32, hv33, hv34, hv35⟩, ha1, ha2, ha3, ha4, ha5, ha6, ha7, ha8, ha9, ha10, ha11, ha12, ha13, ha14, ha15, ha16, ha17, ha18, ha19⟩ := id hM
  obtain ⟨ht, hn, hlm, hdn, hhn, has, hpl, hkw, hRB, hpg, hkp⟩ := id hR
  obtain ⟨hn5, hl5, hkd, hsp, hd6, hdw, hh6, hg18, hgr, hIm⟩ := id hL
  rcases inR_or x (sn S) with ⟨i, hi, hi31, rfl⟩ | hx1 <;> rcases inR_or y 5 with ⟨k, hk, hk31, rfl⟩ | hy1
  · skip
    refine xaload_n hx hb dX12_ask_0 hl rfl ?_
    refine xiload_n hx hb dX12_ask_1 hl rfl ?_
    refine xVi ⟨hx, hb, hml, hown, hts⟩ (kX12_isOne l N0 G _ _ V A hM S hR hL _) (cwV 1 hts gX12_ask_X12_isOne rfl rfl rfl (by decide +kernel) ⟨Nat.le_of_ble_eq_true rfl, Nat.le_of_ble_eq_true rfl⟩) hG hN hw hS (ci := 12) (by repeat first | assumption | exact wu_eq _ _ _ | refine wu_ne (by omega) ?_) rfl rfl hl.1 rfl (Nat.le_of_ble_eq_true rfl) dX12_ask_2 ⟨Nat.le_of_ble_eq_true rfl, Nat.le_of_ble_eq_true rfl⟩ (fun r2 w2 H locs hp2 hw hS => ?_)
    obtain ⟨rfl, rfl⟩ := hp2
    refine xtop (y := bI true) (congrArg bI (decide_eq_true (inR_nI hi (by omega)))) ?_
    first | refine xifb_ne (tgt := 11) hx hb dX12_ask_5 (by decide) (fun c5 => ?_) (fun c5 => ?_) | refine xif_ne (tgt := 11) hx hb dX12_ask_5 (by decide) (by omega) (fun c5 => ?_) (fun c5 => ?_) | refine lv_if_ne (tgt := 11) hx hb dX12_ask_5 (by decide) (fun c5 => ?_) (fun c5 => ?_)
    · skip
      refine xiload_n hx hb dX12_ask_11 hl rfl ?_
      refine lv_iconst (v := nI 0) hx hb dX12_ask_12 (by decide) ?_
      refine lv_iconst (v := nI 4) hx hb dX12_ask_13 (by decide) ?_
      refine xSi ⟨hx, hb, hml, hown, hts⟩ (kX12_within l N0 G _ _ _ _) (va_cwS 3 hts gX12_ask_X12_within rfl rfl rfl (by decide +kernel) ⟨Nat.le_of_ble_eq_true rfl, Nat.le_of_ble_eq_true rfl⟩) hG hN hw hS rfl hl.1 rfl (Nat.le_of_ble_eq_true rfl) dX12_ask_14 ⟨Nat.le_of_ble_eq_true rfl, Nat.le_of_ble_eq_true rfl⟩ (fun r14 w14 H locs hp14 hw hS => ?_)
      obtain ⟨rfl, rfl⟩ := hp14
      refine xtop (y := bI true) (congrArg bI (wiB_y (by omega) (by omega) (by omega))) ?_
      first | refine xifb_eq (tgt := 29) hx hb dX12_ask_17 (by decide) (fun c17 => ?_) (fun c17 => ?_) | refine xif_eq (tgt := 29) hx hb dX12_ask_17 (by decide) (by omega) (fun c17 => ?_) (fun c17 => ?_) | refine lv_if_eq (tgt := 29) hx hb dX12_ask_17 (by decide) (fun c17 => ?_) (fun c17 => ?_)
      · skip
        exfalso
        cases c17
      · skip
        refine xaload_n hx hb dX12_ask_20 hl rfl ?_
        refine xiload_n hx hb dX12_ask_21 hl rfl ?_
        refine xiload_n hx hb dX12_ask_22 hl rfl ?_
        refine xVi ⟨hx, hb, hml, hown, hts⟩ (kX12_askNow l N0 G _ _ V A hM S hR hL i hi (hpa i hi) hhd k (by omega)) (cwV 2 hts gX12_ask_X12_askNow rfl rfl rfl (by decide +kernel) ⟨Nat.le_of_ble_eq_true rfl, Nat.le_of_ble_eq_true rfl⟩) hG hN hw hS (ci := 12) (by repeat first | assumption | exact wu_eq _ _ _ | refine wu_ne (by omega) ?_) rfl rfl hl.1 rfl (Nat.le_of_ble_eq_true rfl) dX12_ask_23 ⟨Nat.le_of_ble_eq_true rfl, Nat.le_of_ble_eq_true rfl⟩ (fun r23 w23 H locs hp23 hw hS => ?_)
        obtain ⟨rfl, V1, A1, hV1, hA1, hM1, hO1⟩ := hp23
        refine lv_goto (tgt := 31) hx hb dX12_ask_26 (by decide) ?_
        exact xiret hx hb hr hlk hw hS dX12_ask_31 ⟨by rw [v_ask, onR_in hi hi31, onR_in hk hk31], ⟨V1, A1, hM1, rm_h hR hV1 hA1⟩, hO1⟩
    · skip
      exfalso
      cases c5
  · skip
    refine xaload_n hx hb dX12_ask_0 hl rfl ?_
    refine xiload_n hx hb dX12_ask_1 hl rfl ?_
    refine xVi ⟨hx, hb, hml, hown, hts⟩ (kX12_isOne l N0 G _ _ V A hM S hR hL _) (cwV 1 hts gX12_ask_X12_isOne rfl rfl rfl (by decide +kernel) ⟨Nat.le_of_ble_eq_true rfl, Nat.le_of_ble_eq_true rfl⟩) hG hN hw hS (ci := 12) (by repeat first | assumption | exact wu_eq _ _ _ | refine wu_ne (by omega) ?_) rfl rfl hl.1 rfl (Nat.le_of_ble_eq_true rfl) dX12_ask_2 ⟨Nat.le_of_ble_eq_true rfl, Nat.le_of_ble_eq_true rfl⟩ (fun r2 w2 H locs hp2 hw hS => ?_)
    obtain ⟨rfl, rfl⟩ := hp2
    refine xtop (y := bI true) (congrArg bI (decide_eq_true (inR_nI hi (by omega)))) ?_
    first | refine xifb_ne (tgt := 11) hx hb dX12_ask_5 (by decide) (fun c5 => ?_) (fun c5 => ?_) | refine xif_ne (tgt := 11) hx hb dX12_ask_5 (by decide) (by omega) (fun c5 => ?_) (fun c5 => ?_) | refine lv_if_ne (tgt := 11) hx hb dX12_ask_5 (by decide) (fun c5 => ?_) (fun c5 => ?_)
    · skip
      refine xiload_n hx hb dX12_ask_11 hl rfl ?_
      refine lv_iconst (v := nI 0) hx hb dX12_ask_12 (by decide) ?_
      refine lv_iconst (v := nI 4) hx hb dX12_ask_13 (by decide) ?_
      refine xSi ⟨hx, hb, hml, hown, hts⟩ (kX12_within l N0 G _ _ _ _) (va_cwS 3 hts gX12_ask_X12_within rfl rfl rfl (by decide +kernel) ⟨Nat.le_of_ble_eq_true rfl, Nat.le_of_ble_eq_true rfl⟩) hG hN hw hS rfl hl.1 rfl (Nat.le_of_ble_eq_true rfl) dX12_ask_14 ⟨Nat.le_of_ble_eq_true rfl, Nat.le_of_ble_eq_true rfl⟩ (fun r14 w14 H locs hp14 hw hS => ?_)
      obtain ⟨rfl, rfl⟩ := hp14
      refine xtop (y := bI false) (congrArg bI (wiB_n hy1 (by omega))) ?_
      first | refine xifb_eq (tgt := 29) hx hb dX12_ask_17 (by decide) (fun c17 => ?_) (fun c17 => ?_) | refine xif_eq (tgt := 29) hx hb dX12_ask_17 (by decide) (by omega) (fun c17 => ?_) (fun c17 => ?_) | refine lv_if_eq (tgt := 29) hx hb dX12_ask_17 (by decide) (fun c17 => ?_) (fun c17 => ?_)
      · skip
        refine lv_bipush (v := -102) hx hb dX12_ask_29 (by decide) ?_
        exact xiret hx hb hr hlk hw hS dX12_ask_31 ⟨by rw [v_ask, onR_in hi hi31, onR_out hy1], ⟨V, A, hM, hR⟩, Out.rf⟩
      · skip
        exfalso
        cases c17
    · skip
      exfalso
      cases c5
  · skip
    refine xaload_n hx hb dX12_ask_0 hl rfl ?_
    refine xiload_n hx hb dX12_ask_1 hl rfl ?_
    refine xVi ⟨hx, hb, hml, hown, hts⟩ (kX12_isOne l N0 G _ _ V A hM S hR hL _) (cwV 1 hts gX12_ask_X12_isOne rfl rfl rfl (by decide +kernel) ⟨Nat.le_of_ble_eq_true rfl, Nat.le_of_ble_eq_true rfl⟩) hG hN hw hS (ci := 12) (by repeat first | assumption | exact wu_eq _ _ _ | refine wu_ne (by omega) ?_) rfl rfl hl.1 rfl (Nat.le_of_ble_eq_true rfl) dX12_ask_2 ⟨Nat.le_of_ble_eq_true rfl, Nat.le_of_ble_eq_true rfl⟩ (fun r2 w2 H locs hp2 hw hS => ?_)
    obtain ⟨rfl, rfl⟩ := hp2
    refine xtop (y := bI false) (congrArg bI (decide_eq_false hx1)) ?_
    first | refine xifb_ne (tgt := 11) hx hb dX12_ask_5 (by decide) (fun c5 => ?_) (fun c5 => ?_) | refine xif_ne (tgt := 11) hx hb dX12_ask_5 (by decide) (by omega) (fun c5 => ?_) (fun c5 => ?_) | refine lv_if_ne (tgt := 11) hx hb dX12_ask_5 (by decide) (fun c5 => ?_) (fun c5 => ?_)
    · skip
      exfalso
      cases c5
    · skip
      refine lv_bipush (v := -101) hx hb dX12_ask_8 (by decide) ?_
      exact xiret hx hb hr hlk hw hS dX12_ask_10 ⟨by rw [v_ask, onR_out hx1], ⟨V, A, hM, hR⟩, Out.rf⟩
  · skip
    refine xaload_n hx hb dX12_ask_0 hl rfl ?_
    refine xiload_n hx hb dX12_ask_1 hl rfl ?_
    refine xVi ⟨hx, hb, hml, hown, hts⟩ (kX12_isOne l N0 G _ _ V A hM S hR hL _) (cwV 1 hts gX12_ask_X12_isOne rfl rfl rfl (by decide +kernel) ⟨Nat.le_of_ble_eq_true rfl, Nat.le_of_ble_eq_true rfl⟩) hG hN hw hS (ci := 12) (by repeat first | assumption | exact wu_eq _ _ _ | refine wu_ne (by omega) ?_) rfl rfl hl.1 rfl (Nat.le_of_ble_eq_true rfl) dX12_ask_2 ⟨Nat.le_of_ble_eq_true rfl, Nat.le_of_ble_eq_true rfl⟩ (fun r2 w2 H locs hp2 hw hS => ?_)
    obtain ⟨rfl, rfl⟩ := hp2
    refine xtop (y := bI false) (congrArg bI (decide_eq_false hx1)) ?_
    first | refine xifb_ne (tgt := 11) hx hb dX12_ask_5 (by decide) (fun c5 => ?_) (fun c5 => ?_) | refine xif_ne (tgt := 11) hx hb dX12_ask_5 (by decide) (by omega) (fun c5 => ?_) (fun c5 => ?_) | refine lv_if_ne (tgt := 11) hx hb dX12_ask_5 (by decide) (fun c5 => ?_) (fun c5 => ?_)
    · skip
      exfalso
      cases c5
    · skip
      refine lv_bipush (v := -101) hx hb dX12_ask_8 (by decide) ?_
      exact xiret hx hb hr hlk hw hS dX12_ask_10 ⟨by rw [v_ask, onR_out hx1], ⟨V, A, hM, hR⟩, Out.rf⟩
set_option maxHeartbeats 4000000 in
set_option maxRecDepth 100000 in
theorem kX12_howMany (l : Launch) (N0 : Nat) (G : XG) (w : Wd) (M0 : Nat) (V : Nat → Value) (A : Nat → Nat → Int32) (hM : MW G w M0 V A) (S : QS) (hR : RM S V A) (hL : WB S) (x : Int32) : XM l yX12_howMany wsX12_howMany (rmD 2) N0 G [.ref M0, .int x] w vI (fun r w1 => v_count S x = r ∧ w = w1) 0 0 := by
  refine XM.of (cc := cX12_howMany) (maxL := 2) (ret := (some .int)) (by decide) rfl (Nat.le_of_ble_eq_true rfl) ?_
  intro p e s m below meth c hx hb hr hlk hin0 hml hown hts hN hw hG hS ls hl
  have hown : s.vm.findClass RX12 = some m.cls := hown
  have hiX12 : ∀ x ∈ u_ws RX12 TX12 37, x ∈ wsX12_howMany := by decide +kernel
  have hlnk0 := hts (.fieldLink RX12 94 "LentQuillModel" "people" "I") (by decide +kernel)
  have hlnk1 := hts (.fieldLink RX12 97 "LentQuillModel" "limit" "I") (by decide +kernel)
  have hlnk2 := hts (.fieldLink RX12 103 "LentQuillModel" "deeds" "I") (by decide +kernel)
  have hlnk3 := hts (.fieldLink RX12 106 "LentQuillModel" "heard" "I") (by decide +kernel)
  have hlnk4 := hts (.fieldLink RX12 72 "LentQuillModel" "pageLength" "I") (by decide +kernel)
  have hlnk5 := hts (.fieldLink RX12 100 "LentQuillModel" "towns" "I") (by decide +kernel)
  have hlnk6 := hts (.fieldLink RX12 177 "LentQuillModel" "asks" "I") (by decide +kernel)
  have hl : lh ls 2 [some (.ref M0), some (.int x)] := hl
  obtain ⟨hm0, ⟨hv3, hv4, hv5, hv6, hv8, hv9, hv11, hv12, hv15, hv18, hv19, hv20, hv24, hv30, hv31, hv32, hv33, hv34, hv35⟩, ha1, ha2, ha3, ha4, ha5, ha6, ha7, ha8, ha9, ha10, ha11, ha12, ha13, ha14, ha15, ha16, ha17, ha18, ha19⟩ := id hM
  obtain ⟨ht, hn, hlm, hdn, hhn, has, hpl, hkw, hRB, hpg, hkp⟩ := id hR
  obtain ⟨hn5, hl5, hkd, hsp, hd6, hdw, hh6, hg18, hgr, hIm⟩ := id hL
  refine xiload_n hx hb dX12_howMany_0 hl rfl ?_
  rcases sw9 x with rfl | rfl | rfl | rfl | rfl | rfl | rfl | rfl | rfl | hx1
  · skip
    refine lv_tableIn (off := 51) (tgt := 52) hx hb dX12_howMany_1 (by decide) (by decide) (by decide) (by decide) ?_
    refine xaload_n hx hb dX12_howMany_52 hl rfl ?_
    refine xgetM hx hb hts hiX12 hown hG hw (by repeat first | assumption | exact wu_eq _ _ _ | refine wu_ne (by omega) ?_) 1 (by decide) hlnk0 (by repeat first | assumption | exact vu_eq _ _ _ | refine vu_ne (by decide) ?_) dX12_howMany_53 ?_
    exact xiret hx hb hr hlk hw hS dX12_howMany_56 ⟨by rw [v_count, onR_in (by omega) (by omega)]; rfl, rfl⟩
  · skip
    refine lv_tableIn (off := 56) (tgt := 57) hx hb dX12_howMany_1 (by decide) (by decide) (by decide) (by decide) ?_
    refine xaload_n hx hb dX12_howMany_57 hl rfl ?_
    refine xgetM hx hb hts hiX12 hown hG hw (by repeat first | assumption | exact wu_eq _ _ _ | refine wu_ne (by omega) ?_) 2 (by decide) hlnk1 (by repeat first | assumption | exact vu_eq _ _ _ | refine vu_ne (by decide) ?_) dX12_howMany_58 ?_
    exact xiret hx hb hr hlk hw hS dX12_howMany_61 ⟨by rw [v_count, onR_in (by omega) (by omega)]; rfl, rfl⟩
  · skip
    refine lv_tableIn (off := 61) (tgt := 62) hx hb dX12_howMany_1 (by decide) (by decide) (by decide) (by decide) ?_
    refine xaload_n hx hb dX12_howMany_62 hl rfl ?_
    refine xVi ⟨hx, hb, hml, hown, hts⟩ (kX12_lentAll l N0 G _ _ V A hM S hR hL) (cwV 0 hts gX12_howMany_X12_lentAll rfl rfl rfl (by decide +kernel) ⟨Nat.le_of_ble_eq_true rfl, Nat.le_of_ble_eq_true rfl⟩) hG hN hw hS (ci := 12) (by repeat first | assumption | exact wu_eq _ _ _ | refine wu_ne (by omega) ?_) rfl rfl hl.1 rfl (Nat.le_of_ble_eq_true rfl) dX12_howMany_63 ⟨Nat.le_of_ble_eq_true rfl, Nat.le_of_ble_eq_true rfl⟩ (fun r63 w63 H locs hp63 hw hS => ?_)
    obtain ⟨rfl, rfl⟩ := hp63
    exact xiret hx hb hr hlk hw hS dX12_howMany_66 ⟨by rw [v_count, onR_in (by omega) (by omega)]; rfl, rfl⟩
  · skip
    refine lv_tableIn (off := 66) (tgt := 67) hx hb dX12_howMany_1 (by decide) (by decide) (by decide) (by decide) ?_
    refine xaload_n hx hb dX12_howMany_67 hl rfl ?_
    refine xgetM hx hb hts hiX12 hown hG hw (by repeat first | assumption | exact wu_eq _ _ _ | refine wu_ne (by omega) ?_) 7 (by decide) hlnk2 (by repeat first | assumption | exact vu_eq _ _ _ | refine vu_ne (by decide) ?_) dX12_howMany_68 ?_
    exact xiret hx hb hr hlk hw hS dX12_howMany_71 ⟨by rw [v_count, onR_in (by omega) (by omega)]; rfl, rfl⟩
  · skip
    refine lv_tableIn (off := 71) (tgt := 72) hx hb dX12_howMany_1 (by decide) (by decide) (by decide) (by decide) ?_
    refine xaload_n hx hb dX12_howMany_72 hl rfl ?_
    refine xVi ⟨hx, hb, hml, hown, hts⟩ (kX12_voids l N0 G _ _ V A hM S hR hL) (cwV 0 hts gX12_howMany_X12_voids rfl rfl rfl (by decide +kernel) ⟨Nat.le_of_ble_eq_true rfl, Nat.le_of_ble_eq_true rfl⟩) hG hN hw hS (ci := 12) (by repeat first | assumption | exact wu_eq _ _ _ | refine wu_ne (by omega) ?_) rfl rfl hl.1 rfl (Nat.le_of_ble_eq_true rfl) dX12_howMany_73 ⟨Nat.le_of_ble_eq_true rfl, Nat.le_of_ble_eq_true rfl⟩ (fun r73 w73 H locs hp73 hw hS => ?_)
    obtain ⟨rfl, rfl⟩ := hp73
    exact xiret hx hb hr hlk hw hS dX12_howMany_76 ⟨by rw [v_count, onR_in (by omega) (by omega)]; rfl, rfl⟩
  · skip
    refine lv_tableIn (off := 76) (tgt := 77) hx hb dX12_howMany_1 (by decide) (by decide) (by decide) (by decide) ?_
    refine xaload_n hx hb dX12_howMany_77 hl rfl ?_
    refine xgetM hx hb hts hiX12 hown hG hw (by repeat first | assumption | exact wu_eq _ _ _ | refine wu_ne (by omega) ?_) 10 (by decide) hlnk3 (by repeat first | assumption | exact vu_eq _ _ _ | refine vu_ne (by decide) ?_) dX12_howMany_78 ?_
    exact xiret hx hb hr hlk hw hS dX12_howMany_81 ⟨by rw [v_count, onR_in (by omega) (by omega)]; rfl, rfl⟩
  · skip
    refine lv_tableIn (off := 81) (tgt := 82) hx hb dX12_howMany_1 (by decide) (by decide) (by decide) (by decide) ?_
    refine xaload_n hx hb dX12_howMany_82 hl rfl ?_
    refine xgetM hx hb hts hiX12 hown hG hw (by repeat first | assumption | exact wu_eq _ _ _ | refine wu_ne (by omega) ?_) 14 (by decide) hlnk4 (by repeat first | assumption | exact vu_eq _ _ _ | refine vu_ne (by decide) ?_) dX12_howMany_83 ?_
    exact xiret hx hb hr hlk hw hS dX12_howMany_86 ⟨by rw [v_count, onR_in (by omega) (by omega)]; rfl, rfl⟩
  · skip
    refine lv_tableIn (off := 86) (tgt := 87) hx hb dX12_howMany_1 (by decide) (by decide) (by decide) (by decide) ?_
    refine xaload_n hx hb dX12_howMany_87 hl rfl ?_
    refine xgetM hx hb hts hiX12 hown hG hw (by repeat first | assumption | exact wu_eq _ _ _ | refine wu_ne (by omega) ?_) 0 (by decide) hlnk5 (by repeat first | assumption | exact vu_eq _ _ _ | refine vu_ne (by decide) ?_) dX12_howMany_88 ?_
    exact xiret hx hb hr hlk hw hS dX12_howMany_91 ⟨by rw [v_count, onR_in (by omega) (by omega)]; rfl, rfl⟩
  · skip
    refine lv_tableIn (off := 91) (tgt := 92) hx hb dX12_howMany_1 (by decide) (by decide) (by decide) (by decide) ?_
    refine xaload_n hx hb dX12_howMany_92 hl rfl ?_
    refine xgetM hx hb hts hiX12 hown hG hw (by repeat first | assumption | exact wu_eq _ _ _ | refine wu_ne (by omega) ?_) 13 (by decide) hlnk6 (by repeat first | assumption | exact vu_eq _ _ _ | refine vu_ne (by decide) ?_) dX12_howMany_93 ?_
    exact xiret hx hb hr hlk hw hS dX12_howMany_96 ⟨by rw [v_count, onR_in (by omega) (by omega)]; rfl, rfl⟩
  · skip
    refine lv_tableOut (tgt := 97) hx hb dX12_howMany_1 (tab_out hx1 (by decide)) (by decide) ?_
    refine lv_bipush (v := -102) hx hb dX12_howMany_97 (by decide) ?_
    exact xiret hx hb hr hlk hw hS dX12_howMany_99 ⟨by rw [v_count, onR_out hx1], rfl⟩
set_option maxHeartbeats 4000000 in
set_option maxRecDepth 100000 in
theorem kX12_count (l : Launch) (N0 : Nat) (G : XG) (w : Wd) (M0 : Nat) (V : Nat → Value) (A : Nat → Nat → Int32) (hM : MW G w M0 V A) (S : QS) (hR : RM S V A) (hL : WB S) (x : Int32) : XM l yX12_count wsX12_count (rmD 3) N0 G [.ref M0, .int x] w vI (fun r w1 => v_count S x = r ∧ w = w1) 0 0 := by
  refine XM.of (cc := cX12_count) (maxL := 2) (ret := (some .int)) (by decide) rfl (Nat.le_of_ble_eq_true rfl) ?_
  intro p e s m below meth c hx hb hr hlk hin0 hml hown hts hN hw hG hS ls hl
  have hown : s.vm.findClass RX12 = some m.cls := hown
  have hl : lh ls 2 [some (.ref M0), some (.int x)] := hl
  obtain ⟨hm0, ⟨hv3, hv4, hv5, hv6, hv8, hv9, hv11, hv12, hv15, hv18, hv19, hv20, hv24, hv30, hv31, hv32, hv33, hv34, hv35⟩, ha1, ha2, ha3, ha4, ha5, ha6, ha7, ha8, ha9, ha10, ha11, ha12, ha13, ha14, ha15, ha16, ha17, ha18, ha19⟩ := id hM
  obtain ⟨ht, hn, hlm, hdn, hhn, has, hpl, hkw, hRB, hpg, hkp⟩ := id hR
  obtain ⟨hn5, hl5, hkd, hsp, hd6, hdw, hh6, hg18, hgr, hIm⟩ := id hL
  refine xaload_n hx hb dX12_count_0 hl rfl ?_
  refine xiload_n hx hb dX12_count_1 hl rfl ?_
  refine xVi ⟨hx, hb, hml, hown, hts⟩ (kX12_howMany l N0 G _ _ V A hM S hR hL _) (cwV 1 hts gX12_count_X12_howMany rfl rfl rfl (by decide +kernel) ⟨Nat.le_of_ble_eq_true rfl, Nat.le_of_ble_eq_true rfl⟩) hG hN hw hS (ci := 12) (by repeat first | assumption | exact wu_eq _ _ _ | refine wu_ne (by omega) ?_) rfl rfl hl.1 rfl (Nat.le_of_ble_eq_true rfl) dX12_count_2 ⟨Nat.le_of_ble_eq_true rfl, Nat.le_of_ble_eq_true rfl⟩ (fun r2 w2 H locs hp2 hw hS => ?_)
  obtain ⟨rfl, rfl⟩ := hp2
  exact xiret hx hb hr hlk hw hS dX12_count_5 ⟨rfl, rfl⟩
set_option maxHeartbeats 4000000 in
set_option maxRecDepth 100000 in
theorem kX12_image (l : Launch) (N0 : Nat) (G : XG) (w : Wd) (M0 : Nat) (V : Nat → Value) (A : Nat → Nat → Int32) (hM : MW G w M0 V A) (S : QS) (hR : RM S V A) (hL : WB S) : XM l yX12_image wsX12_image (rmD 2) N0 G [.ref M0] w vI (fun r w1 => (o_image S).1 = r ∧ (∃ V1 A1, MW G w1 M0 V1 A1 ∧ RM ((o_image S).2) V1 A1) ∧ Out w w1 M0 (M0 + 20)) 0 0 := by
  refine XM.of (cc := cX12_image) (maxL := 2) (ret := (some .int)) (by decide) rfl (Nat.le_of_ble_eq_true rfl) ?_
  intro p e s m below meth c hx hb hr hlk hin0 hml hown hts hN hw hG hS ls hl
  have hown : s.vm.findClass RX12 = some m.cls := hown
  have hiX12 : ∀ x ∈ u_ws RX12 TX12 37, x ∈ wsX12_image := by decide +kernel
  have hlnk0 := hts (.fieldLink RX12 94 "LentQuillModel" "people" "I") (by decide +kernel)
  have hlnk1 := hts (.fieldLink RX12 227 "LentQuillModel" "isKept" "Z") (by decide +kernel)
  have hlnk2 := hts (.fieldLink RX12 100 "LentQuillModel" "towns" "I") (by decide +kernel)
  have hlnk3 := hts (.fieldLink RX12 230 "LentQuillModel" "keptTown" "I") (by decide +kernel)
  have hlnk4 := hts (.fieldLink RX12 103 "LentQuillModel" "deeds" "I") (by decide +kernel)
  have hlnk5 := hts (.fieldLink RX12 233 "LentQuillModel" "keptDeeds" "I") (by decide +kernel)
  have hlnk6 := hts (.fieldLink RX12 106 "LentQuillModel" "heard" "I") (by decide +kernel)
  have hlnk7 := hts (.fieldLink RX12 236 "LentQuillModel" "keptHeard" "I") (by decide +kernel)
  have hlnk8 := hts (.fieldLink RX12 56 "LentQuillModel" "keptDebt" "[I") (by decide +kernel)
  have hlnk9 := hts (.fieldLink RX12 22 "LentQuillModel" "debtOf" "[I") (by decide +kernel)
  have hlnk10 := hts (.fieldLink RX12 59 "LentQuillModel" "keptBound" "[I") (by decide +kernel)
  have hlnk11 := hts (.fieldLink RX12 25 "LentQuillModel" "boundOf" "[I") (by decide +kernel)
  have hlnk12 := hts (.fieldLink RX12 62 "LentQuillModel" "keptWho" "[I") (by decide +kernel)
  have hlnk13 := hts (.fieldLink RX12 28 "LentQuillModel" "heardWho" "[I") (by decide +kernel)
  have hlnk14 := hts (.fieldLink RX12 65 "LentQuillModel" "keptHeardBound" "[I") (by decide +kernel)
  have hlnk15 := hts (.fieldLink RX12 31 "LentQuillModel" "heardBound" "[I") (by decide +kernel)
  have hlnk16 := hts (.fieldLink RX12 53 "LentQuillModel" "keptLent" "[I") (by decide +kernel)
  have hlnk17 := hts (.fieldLink RX12 19 "LentQuillModel" "lentOf" "[I") (by decide +kernel)
  have hlnk18 := hts (.fieldLink RX12 50 "LentQuillModel" "keptHand" "[I") (by decide +kernel)
  have hlnk19 := hts (.fieldLink RX12 16 "LentQuillModel" "handOf" "[I") (by decide +kernel)
  have hl : lh ls 2 [some (.ref M0), none] := hl
  obtain ⟨hm0, ⟨hv3, hv4, hv5, hv6, hv8, hv9, hv11, hv12, hv15, hv18, hv19, hv20, hv24, hv30, hv31, hv32, hv33, hv34, hv35⟩, ha1, ha2, ha3, ha4, ha5, ha6, ha7, ha8, ha9, ha10, ha11, ha12, ha13, ha14, ha15, ha16, ha17, ha18, ha19⟩ := id hM
  obtain ⟨ht, hn, hlm, hdn, hhn, has, hpl, hkw, hRB, hpg, hkp⟩ := id hR
  obtain ⟨hn5, hl5, hkd, hsp, hd6, hdw, hh6, hg18, hgr, hIm⟩ := id hL
  refine xaload_n hx hb dX12_image_0 hl rfl ?_
  refine xgetM hx hb hts hiX12 hown hG hw (by repeat first | assumption | exact wu_eq _ _ _ | refine wu_ne (by omega) ?_) 1 (by decide) hlnk0 (by repeat first | assumption | exact vu_eq _ _ _ | refine vu_ne (by decide) ?_) dX12_image_1 ?_
  first | refine xifb_ne (tgt := 10) hx hb dX12_image_4 (by decide) (fun c4 => ?_) (fun c4 => ?_) | refine xif_ne (tgt := 10) hx hb dX12_image_4 (by decide) (by omega) (fun c4 => ?_) (fun c4 => ?_) | refine lv_if_ne (tgt := 10) hx hb dX12_image_4 (by decide) (fun c4 => ?_) (fun c4 => ?_)
  · skip
    refine xaload_n hx hb dX12_image_10 hl rfl ?_
    refine lv_iconst (v := nI 1) hx hb dX12_image_11 (by decide) ?_
    refine xputM (ty := .boolean) hx hb hts hiX12 hown hG hw hS (by repeat first | assumption | exact wu_eq _ _ _ | refine wu_ne (by omega) ?_) 26 (by decide) hlnk1 rfl (by decide +kernel) rfl rfl dX12_image_12 (fun H locs hzz hw hS => ?_)
    refine xaload_n hx hb dX12_image_15 hl rfl ?_
    refine xaload_n hx hb dX12_image_16 hl rfl ?_
    refine xgetM hx hb hts hiX12 hown hG hw (by repeat first | assumption | exact wu_eq _ _ _ | refine wu_ne (by omega) ?_) 0 (by decide) hlnk2 (by repeat first | assumption | exact vu_eq _ _ _ | refine vu_ne (by decide) ?_) dX12_image_17 ?_
    refine xputM (ty := .int) hx hb hts hiX12 hown hG hw hS (by repeat first | assumption | exact wu_eq _ _ _ | refine wu_ne (by omega) ?_) 27 (by decide) hlnk3 rfl (by decide +kernel) rfl rfl dX12_image_20 (fun H locs hzz hw hS => ?_)
    refine xaload_n hx hb dX12_image_23 hl rfl ?_
    refine xaload_n hx hb dX12_image_24 hl rfl ?_
    refine xgetM hx hb hts hiX12 hown hG hw (by repeat first | assumption | exact wu_eq _ _ _ | refine wu_ne (by omega) ?_) 7 (by decide) hlnk4 (by repeat first | assumption | exact vu_eq _ _ _ | refine vu_ne (by decide) ?_) dX12_image_25 ?_
    refine xputM (ty := .int) hx hb hts hiX12 hown hG hw hS (by repeat first | assumption | exact wu_eq _ _ _ | refine wu_ne (by omega) ?_) 28 (by decide) hlnk5 rfl (by decide +kernel) rfl rfl dX12_image_28 (fun H locs hzz hw hS => ?_)
    refine xaload_n hx hb dX12_image_31 hl rfl ?_
    refine xaload_n hx hb dX12_image_32 hl rfl ?_
    refine xgetM hx hb hts hiX12 hown hG hw (by repeat first | assumption | exact wu_eq _ _ _ | refine wu_ne (by omega) ?_) 10 (by decide) hlnk6 (by repeat first | assumption | exact vu_eq _ _ _ | refine vu_ne (by decide) ?_) dX12_image_33 ?_
    refine xputM (ty := .int) hx hb hts hiX12 hown hG hw hS (by repeat first | assumption | exact wu_eq _ _ _ | refine wu_ne (by omega) ?_) 29 (by decide) hlnk7 rfl (by decide +kernel) rfl rfl dX12_image_36 (fun H locs hzz hw hS => ?_)
    obtain ⟨V3, hV3e⟩ : ∃ V3, V3 = vu (vu (vu (vu V 26 (.int (nI 1))) 27 (.int (nI (sT S)))) 28 (.int (nI (sd S).length))) 29 (.int (nI (sh S).length)) := ⟨_, rfl⟩
    have hM3 := (((hM.put (k := 26) (.int (nI 1)) (by decide)).put (k := 27) (.int (nI (sT S))) (by decide)).put (k := 28) (.int (nI (sd S).length)) (by decide)).put (k := 29) (.int (nI (sh S).length)) (by decide)
    rw [← hV3e] at hM3 hw
    refine lv_iconst (v := nI 0) hx hb dX12_image_39 (by decide) ?_
    refine xistore_n hx hb dX12_image_40 hl (by decide) rfl (fun ls hl => ?_)
    have loop41 : ∀ (nf : Nat) (k : Nat) (A1 : Nat → Nat → Int32) (w1 : Wd) (H : Heap) (locs : List Loc) (ls : Array Slot), 205 - k < nf → (k ≤ 205) → (Ki A A1 k 0 0) → (MW G w1 M0 V3 A1) → (Out w w1 M0 (M0 + 20)) → PW N0 G w1 H → va_S (fun q => N0 ≤ q) s.heap H locs → lh ls 2 [some (.ref M0), some (.int (nI k))] → W p l e (rmD 2) s m ([.ref M0] : List Value).toArray below meth c H locs 0 0 (MQ below (XQ N0 G vI (fun r w1 => (o_image S).1 = r ∧ (∃ V1 A1, MW G w1 M0 V1 A1 ∧ RM ((o_image S).2) V1 A1) ∧ Out w w1 M0 (M0 + 20))) ([.ref M0] : List Value).toArray s 0 0 (fun q => N0 ≤ q)) (F0 m 41 ls []) := by
      intro nf
      induction nf with
      | zero => intros; omega
      | succ nf ih41 =>
        intro k A1 w1 H locs ls hnf hk hK1 hM1 hO1 hw hS hl
        obtain ⟨hm0z, ⟨hv3z, hv4z, hv5z, hv6z, hv8z, hv9z, hv11z, hv12z, hv15z, hv18z, hv19z, hv20z, hv24z, hv30z, hv31z, hv32z, hv33z, hv34z, hv35z⟩, ha1z, ha2z, ha3z, ha4z, ha5z, ha6z, ha7z, ha8z, ha9z, ha10z, ha11z, ha12z, ha13z, ha14z, ha15z, ha16z, ha17z, ha18z, ha19z⟩ := id hM1
        refine xiload_n hx hb dX12_image_41 hl rfl ?_
        refine lv_sipush (v := nI 205) hx hb dX12_image_42 (by decide) ?_
        first | refine xcmp_ge (tgt := 66) hx hb dX12_image_45 (by decide) (by omega) (by omega) (fun c45 => ?_) (fun c45 => ?_) | refine lv_icmp_ge (tgt := 66) hx hb dX12_image_45 (by decide) (fun c45 => ?_) (fun c45 => ?_)
        · skip
          refine lv_iconst (v := nI 0) hx hb dX12_image_66 (by decide) ?_
          refine xistore_n hx hb dX12_image_67 hl (by decide) rfl (fun ls hl => ?_)
          have loop68 : ∀ (nf : Nat) (k : Nat) (A1 : Nat → Nat → Int32) (w1 : Wd) (H : Heap) (locs : List Loc) (ls : Array Slot), 5 - k < nf → (k ≤ 5) → (Ki A A1 205 k 0) → (MW G w1 M0 V3 A1) → (Out w w1 M0 (M0 + 20)) → PW N0 G w1 H → va_S (fun q => N0 ≤ q) s.heap H locs → lh ls 2 [some (.ref M0), some (.int (nI k))] → W p l e (rmD 2) s m ([.ref M0] : List Value).toArray below meth c H locs 0 0 (MQ below (XQ N0 G vI (fun r w1 => (o_image S).1 = r ∧ (∃ V1 A1, MW G w1 M0 V1 A1 ∧ RM ((o_image S).2) V1 A1) ∧ Out w w1 M0 (M0 + 20))) ([.ref M0] : List Value).toArray s 0 0 (fun q => N0 ≤ q)) (F0 m 68 ls []) := by
            intro nf
            induction nf with
            | zero => intros; omega
            | succ nf ih68 =>
              intro k A1 w1 H locs ls hnf hk hK1 hM1 hO1 hw hS hl
              obtain ⟨hm0z, ⟨hv3z, hv4z, hv5z, hv6z, hv8z, hv9z, hv11z, hv12z, hv15z, hv18z, hv19z, hv20z, hv24z, hv30z, hv31z, hv32z, hv33z, hv34z, hv35z⟩, ha1z, ha2z, ha3z, ha4z, ha5z, ha6z, ha7z, ha8z, ha9z, ha10z, ha11z, ha12z, ha13z, ha14z, ha15z, ha16z, ha17z, ha18z, ha19z⟩ := id hM1
              refine xiload_n hx hb dX12_image_68 hl rfl ?_
              refine lv_iconst (v := nI 5) hx hb dX12_image_69 (by decide) ?_
              first | refine xcmp_ge (tgt := 91) hx hb dX12_image_70 (by decide) (by omega) (by omega) (fun c70 => ?_) (fun c70 => ?_) | refine lv_icmp_ge (tgt := 91) hx hb dX12_image_70 (by decide) (fun c70 => ?_) (fun c70 => ?_)
              · skip
                refine lv_iconst (v := nI 0) hx hb dX12_image_91 (by decide) ?_
                refine xistore_n hx hb dX12_image_92 hl (by decide) rfl (fun ls hl => ?_)
                have loop93 : ∀ (nf : Nat) (k : Nat) (A1 : Nat → Nat → Int32) (w1 : Wd) (H : Heap) (locs : List Loc) (ls : Array Slot), 6 - k < nf → (k ≤ 6) → (Ki A A1 205 5 k) → (MW G w1 M0 V3 A1) → (Out w w1 M0 (M0 + 20)) → PW N0 G w1 H → va_S (fun q => N0 ≤ q) s.heap H locs → lh ls 2 [some (.ref M0), some (.int (nI k))] → W p l e (rmD 2) s m ([.ref M0] : List Value).toArray below meth c H locs 0 0 (MQ below (XQ N0 G vI (fun r w1 => (o_image S).1 = r ∧ (∃ V1 A1, MW G w1 M0 V1 A1 ∧ RM ((o_image S).2) V1 A1) ∧ Out w w1 M0 (M0 + 20))) ([.ref M0] : List Value).toArray s 0 0 (fun q => N0 ≤ q)) (F0 m 93 ls []) := by
                  intro nf
                  induction nf with
                  | zero => intros; omega
                  | succ nf ih93 =>
                    intro k A1 w1 H locs ls hnf hk hK1 hM1 hO1 hw hS hl
                    obtain ⟨hm0z, ⟨hv3z, hv4z, hv5z, hv6z, hv8z, hv9z, hv11z, hv12z, hv15z, hv18z, hv19z, hv20z, hv24z, hv30z, hv31z, hv32z, hv33z, hv34z, hv35z⟩, ha1z, ha2z, ha3z, ha4z, ha5z, ha6z, ha7z, ha8z, ha9z, ha10z, ha11z, ha12z, ha13z, ha14z, ha15z, ha16z, ha17z, ha18z, ha19z⟩ := id hM1
                    refine xiload_n hx hb dX12_image_93 hl rfl ?_
                    refine lv_bipush (v := nI 6) hx hb dX12_image_94 (by decide) ?_
                    first | refine xcmp_ge (tgt := 153) hx hb dX12_image_96 (by decide) (by omega) (by omega) (fun c96 => ?_) (fun c96 => ?_) | refine lv_icmp_ge (tgt := 153) hx hb dX12_image_96 (by decide) (fun c96 => ?_) (fun c96 => ?_)
                    · skip
                      have hR9 : RM (imgS S) V3 A1 := by rw [hV3e]; exact rm_image hR hL (by rw [show k = 6 by omega] at hK1; exact hK1)
                      have hL9 := wb_image hL
                      refine xaload_n hx hb dX12_image_153 hl rfl ?_
                      refine xVi ⟨hx, hb, hml, hown, hts⟩ (kX12_lentAll l N0 G _ _ V3 A1 hM1 (imgS S) hR9 hL9) (cwV 0 hts gX12_image_X12_lentAll rfl rfl rfl (by decide +kernel) ⟨Nat.le_of_ble_eq_true rfl, Nat.le_of_ble_eq_true rfl⟩) hG hN hw hS (ci := 12) hM1.1 rfl rfl hl.1 rfl (Nat.le_of_ble_eq_true rfl) dX12_image_154 ⟨Nat.le_of_ble_eq_true rfl, Nat.le_of_ble_eq_true rfl⟩ (fun r154 w154 H locs hp154 hw hS => ?_)
                      obtain ⟨rfl, rfl⟩ := hp154
                      exact xiret hx hb hr hlk hw hS dX12_image_157 ⟨by rw [img_y c4]; rfl, ⟨V3, A1, hM1, by rw [img_y c4]; exact hR9⟩, hO1⟩
                    · skip
                      refine xaload_n hx hb dX12_image_99 hl rfl ?_
                      refine xgetM hx hb hts hiX12 hown hG hw (by repeat first | assumption | exact wu_eq _ _ _ | refine wu_ne (by omega) ?_) 32 (by decide) hlnk8 (by repeat first | assumption | exact vu_eq _ _ _ | refine vu_ne (by decide) ?_) dX12_image_100 ?_
                      refine xiload_n hx hb dX12_image_103 hl rfl ?_
                      refine xaload_n hx hb dX12_image_104 hl rfl ?_
                      refine xgetM hx hb hts hiX12 hown hG hw (by repeat first | assumption | exact wu_eq _ _ _ | refine wu_ne (by omega) ?_) 8 (by decide) hlnk9 (by repeat first | assumption | exact vu_eq _ _ _ | refine vu_ne (by decide) ?_) dX12_image_105 ?_
                      refine xiload_n hx hb dX12_image_108 hl rfl ?_
                      refine xiald hx hb hG hw (by repeat first | assumption | exact wu_eq _ _ _ | refine wu_ne (by omega) ?_) (by omega) (by omega) dX12_image_109 ?_
                      refine xiast hx hb hG hw hS (by repeat first | assumption | exact wu_eq _ _ _ | refine wu_ne (by omega) ?_) (by omega) (by omega) dX12_image_110 (fun H locs hzz hw hS => ?_)
                      refine xaload_n hx hb dX12_image_111 hl rfl ?_
                      refine xgetM hx hb hts hiX12 hown hG hw (by repeat first | assumption | exact wu_eq _ _ _ | refine wu_ne (by omega) ?_) 33 (by decide) hlnk10 (by repeat first | assumption | exact vu_eq _ _ _ | refine vu_ne (by decide) ?_) dX12_image_112 ?_
                      refine xiload_n hx hb dX12_image_115 hl rfl ?_
                      refine xaload_n hx hb dX12_image_116 hl rfl ?_
                      refine xgetM hx hb hts hiX12 hown hG hw (by repeat first | assumption | exact wu_eq _ _ _ | refine wu_ne (by omega) ?_) 9 (by decide) hlnk11 (by repeat first | assumption | exact vu_eq _ _ _ | refine vu_ne (by decide) ?_) dX12_image_117 ?_
                      refine xiload_n hx hb dX12_image_120 hl rfl ?_
                      refine xiald hx hb hG hw (by repeat first | assumption | exact wu_eq _ _ _ | refine wu_ne (by omega) ?_) (by omega) (by omega) dX12_image_121 ?_
                      refine xiast hx hb hG hw hS (by repeat first | assumption | exact wu_eq _ _ _ | refine wu_ne (by omega) ?_) (by omega) (by omega) dX12_image_122 (fun H locs hzz hw hS => ?_)
                      refine xaload_n hx hb dX12_image_123 hl rfl ?_
                      refine xgetM hx hb hts hiX12 hown hG hw (by repeat first | assumption | exact wu_eq _ _ _ | refine wu_ne (by omega) ?_) 34 (by decide) hlnk12 (by repeat first | assumption | exact vu_eq _ _ _ | refine vu_ne (by decide) ?_) dX12_image_124 ?_
                      refine xiload_n hx hb dX12_image_127 hl rfl ?_
                      refine xaload_n hx hb dX12_image_128 hl rfl ?_
                      refine xgetM hx hb hts hiX12 hown hG hw (by repeat first | assumption | exact wu_eq _ _ _ | refine wu_ne (by omega) ?_) 11 (by decide) hlnk13 (by repeat first | assumption | exact vu_eq _ _ _ | refine vu_ne (by decide) ?_) dX12_image_129 ?_
                      refine xiload_n hx hb dX12_image_132 hl rfl ?_
                      refine xiald hx hb hG hw (by repeat first | assumption | exact wu_eq _ _ _ | refine wu_ne (by omega) ?_) (by omega) (by omega) dX12_image_133 ?_
                      refine xiast hx hb hG hw hS (by repeat first | assumption | exact wu_eq _ _ _ | refine wu_ne (by omega) ?_) (by omega) (by omega) dX12_image_134 (fun H locs hzz hw hS => ?_)
                      refine xaload_n hx hb dX12_image_135 hl rfl ?_
                      refine xgetM hx hb hts hiX12 hown hG hw (by repeat first | assumption | exact wu_eq _ _ _ | refine wu_ne (by omega) ?_) 35 (by decide) hlnk14 (by repeat first | assumption | exact vu_eq _ _ _ | refine vu_ne (by decide) ?_) dX12_image_136 ?_
                      refine xiload_n hx hb dX12_image_139 hl rfl ?_
                      refine xaload_n hx hb dX12_image_140 hl rfl ?_
                      refine xgetM hx hb hts hiX12 hown hG hw (by repeat first | assumption | exact wu_eq _ _ _ | refine wu_ne (by omega) ?_) 12 (by decide) hlnk15 (by repeat first | assumption | exact vu_eq _ _ _ | refine vu_ne (by decide) ?_) dX12_image_141 ?_
                      refine xiload_n hx hb dX12_image_144 hl rfl ?_
                      refine xiald hx hb hG hw (by repeat first | assumption | exact wu_eq _ _ _ | refine wu_ne (by omega) ?_) (by omega) (by omega) dX12_image_145 ?_
                      refine xiast hx hb hG hw hS (by repeat first | assumption | exact wu_eq _ _ _ | refine wu_ne (by omega) ?_) (by omega) (by omega) dX12_image_146 (fun H locs hzz hw hS => ?_)
                      first | refine xiincN hx hb 1 dX12_image_147 hl rfl (by decide) (by decide) rfl (fun ls hl => ?_) | refine xiinc hx hb dX12_image_147 hl rfl rfl (by decide) rfl (fun ls hl => ?_)
                      refine lv_goto (tgt := 93) hx hb dX12_image_150 (by decide) ?_
                      exact ih93 (k + 1) _ _ _ _ _ (by omega) (by omega) hK1.s3 ((((hM1.a16 _).a17 _).a18 _).a19 _) ((((hO1.wu (by omega) (by omega)).wu (by omega) (by omega)).wu (by omega) (by omega)).wu (by omega) (by omega)) hw hS hl
                exact loop93 7 0 A1 _ _ _ _ (by omega) (by omega) (by rw [show k = 5 by omega] at hK1; exact hK1) hM1 hO1 hw hS hl
              · skip
                refine xaload_n hx hb dX12_image_73 hl rfl ?_
                refine xgetM hx hb hts hiX12 hown hG hw (by repeat first | assumption | exact wu_eq _ _ _ | refine wu_ne (by omega) ?_) 31 (by decide) hlnk16 (by repeat first | assumption | exact vu_eq _ _ _ | refine vu_ne (by decide) ?_) dX12_image_74 ?_
                refine xiload_n hx hb dX12_image_77 hl rfl ?_
                refine xaload_n hx hb dX12_image_78 hl rfl ?_
                refine xgetM hx hb hts hiX12 hown hG hw (by repeat first | assumption | exact wu_eq _ _ _ | refine wu_ne (by omega) ?_) 6 (by decide) hlnk17 (by repeat first | assumption | exact vu_eq _ _ _ | refine vu_ne (by decide) ?_) dX12_image_79 ?_
                refine xiload_n hx hb dX12_image_82 hl rfl ?_
                refine xiald hx hb hG hw (by repeat first | assumption | exact wu_eq _ _ _ | refine wu_ne (by omega) ?_) (by omega) (by omega) dX12_image_83 ?_
                refine xiast hx hb hG hw hS (by repeat first | assumption | exact wu_eq _ _ _ | refine wu_ne (by omega) ?_) (by omega) (by omega) dX12_image_84 (fun H locs hzz hw hS => ?_)
                first | refine xiincN hx hb 1 dX12_image_85 hl rfl (by decide) (by decide) rfl (fun ls hl => ?_) | refine xiinc hx hb dX12_image_85 hl rfl rfl (by decide) rfl (fun ls hl => ?_)
                refine lv_goto (tgt := 68) hx hb dX12_image_88 (by decide) ?_
                exact ih68 (k + 1) _ _ _ _ _ (by omega) (by omega) hK1.s2 (hM1.a15 _) (hO1.wu (by omega) (by omega)) hw hS hl
          exact loop68 6 0 A1 _ _ _ _ (by omega) (by omega) (by rw [show k = 205 by omega] at hK1; exact hK1) hM1 hO1 hw hS hl
        · skip
          refine xaload_n hx hb dX12_image_48 hl rfl ?_
          refine xgetM hx hb hts hiX12 hown hG hw (by repeat first | assumption | exact wu_eq _ _ _ | refine wu_ne (by omega) ?_) 30 (by decide) hlnk18 (by repeat first | assumption | exact vu_eq _ _ _ | refine vu_ne (by decide) ?_) dX12_image_49 ?_
          refine xiload_n hx hb dX12_image_52 hl rfl ?_
          refine xaload_n hx hb dX12_image_53 hl rfl ?_
          refine xgetM hx hb hts hiX12 hown hG hw (by repeat first | assumption | exact wu_eq _ _ _ | refine wu_ne (by omega) ?_) 5 (by decide) hlnk19 (by repeat first | assumption | exact vu_eq _ _ _ | refine vu_ne (by decide) ?_) dX12_image_54 ?_
          refine xiload_n hx hb dX12_image_57 hl rfl ?_
          refine xiald hx hb hG hw (by repeat first | assumption | exact wu_eq _ _ _ | refine wu_ne (by omega) ?_) (by omega) (by omega) dX12_image_58 ?_
          refine xiast hx hb hG hw hS (by repeat first | assumption | exact wu_eq _ _ _ | refine wu_ne (by omega) ?_) (by omega) (by omega) dX12_image_59 (fun H locs hzz hw hS => ?_)
          first | refine xiincN hx hb 1 dX12_image_60 hl rfl (by decide) (by decide) rfl (fun ls hl => ?_) | refine xiinc hx hb dX12_image_60 hl rfl rfl (by decide) rfl (fun ls hl => ?_)
          refine lv_goto (tgt := 41) hx hb dX12_image_63 (by decide) ?_
          exact ih41 (k + 1) _ _ _ _ _ (by omega) (by omega) hK1.s1 (hM1.a14 _) (hO1.wu (by omega) (by omega)) hw hS hl
    exact loop41 206 0 A _ _ _ _ (by omega) (by omega) Ki.rf hM3 ((((Out.rf.wu (by omega) (by omega)).wu (by omega) (by omega)).wu (by omega) (by omega)).wu (by omega) (by omega)) hw hS hl
  · skip
    refine lv_bipush (v := -103) hx hb dX12_image_7 (by decide) ?_
    exact xiret hx hb hr hlk hw hS dX12_image_9 ⟨by rw [img_n c4], ⟨V, A, hM, by rw [img_n c4]; exact hR⟩, Out.rf⟩
set_option maxHeartbeats 4000000 in
set_option maxRecDepth 100000 in
theorem kX12_restore (l : Launch) (N0 : Nat) (G : XG) (w : Wd) (M0 : Nat) (V : Nat → Value) (A : Nat → Nat → Int32) (hM : MW G w M0 V A) (S : QS) (hR : RM S V A) (hL : WB S) (hsT : sT S ≤ 1000) (hL9 : WB (o_restore S).2) : XM l yX12_restore wsX12_restore (rmD 2) N0 G [.ref M0] w vI (fun r w1 => (o_restore S).1 = r ∧ (∃ V1 A1, MW G w1 M0 V1 A1 ∧ RM ((o_restore S).2) V1 A1) ∧ Out w w1 M0 (M0 + 20)) 0 0 := by
  refine XM.of (cc := cX12_restore) (maxL := 2) (ret := (some .int)) (by decide) rfl (Nat.le_of_ble_eq_true rfl) ?_
  intro p e s m below meth c hx hb hr hlk hin0 hml hown hts hN hw hG hS ls hl
  have hown : s.vm.findClass RX12 = some m.cls := hown
  have hiX12 : ∀ x ∈ u_ws RX12 TX12 37, x ∈ wsX12_restore := by decide +kernel
  have hlnk0 := hts (.fieldLink RX12 227 "LentQuillModel" "isKept" "Z") (by decide +kernel)
  have hlnk1 := hts (.fieldLink RX12 230 "LentQuillModel" "keptTown" "I") (by decide +kernel)
  have hlnk2 := hts (.fieldLink RX12 100 "LentQuillModel" "towns" "I") (by decide +kernel)
  have hlnk3 := hts (.fieldLink RX12 233 "LentQuillModel" "keptDeeds" "I") (by decide +kernel)
  have hlnk4 := hts (.fieldLink RX12 103 "LentQuillModel" "deeds" "I") (by decide +kernel)
  have hlnk5 := hts (.fieldLink RX12 236 "LentQuillModel" "keptHeard" "I") (by decide +kernel)
  have hlnk6 := hts (.fieldLink RX12 106 "LentQuillModel" "heard" "I") (by decide +kernel)
  have hlnk7 := hts (.fieldLink RX12 22 "LentQuillModel" "debtOf" "[I") (by decide +kernel)
  have hlnk8 := hts (.fieldLink RX12 56 "LentQuillModel" "keptDebt" "[I") (by decide +kernel)
  have hlnk9 := hts (.fieldLink RX12 25 "LentQuillModel" "boundOf" "[I") (by decide +kernel)
  have hlnk10 := hts (.fieldLink RX12 59 "LentQuillModel" "keptBound" "[I") (by decide +kernel)
  have hlnk11 := hts (.fieldLink RX12 28 "LentQuillModel" "heardWho" "[I") (by decide +kernel)
  have hlnk12 := hts (.fieldLink RX12 62 "LentQuillModel" "keptWho" "[I") (by decide +kernel)
  have hlnk13 := hts (.fieldLink RX12 31 "LentQuillModel" "heardBound" "[I") (by decide +kernel)
  have hlnk14 := hts (.fieldLink RX12 65 "LentQuillModel" "keptHeardBound" "[I") (by decide +kernel)
  have hlnk15 := hts (.fieldLink RX12 19 "LentQuillModel" "lentOf" "[I") (by decide +kernel)
  have hlnk16 := hts (.fieldLink RX12 53 "LentQuillModel" "keptLent" "[I") (by decide +kernel)
  have hlnk17 := hts (.fieldLink RX12 16 "LentQuillModel" "handOf" "[I") (by decide +kernel)
  have hlnk18 := hts (.fieldLink RX12 50 "LentQuillModel" "keptHand" "[I") (by decide +kernel)
  have hl : lh ls 2 [some (.ref M0), none] := hl
  obtain ⟨hm0, ⟨hv3, hv4, hv5, hv6, hv8, hv9, hv11, hv12, hv15, hv18, hv19, hv20, hv24, hv30, hv31, hv32, hv33, hv34, hv35⟩, ha1, ha2, ha3, ha4, ha5, ha6, ha7, ha8, ha9, ha10, ha11, ha12, ha13, ha14, ha15, ha16, ha17, ha18, ha19⟩ := id hM
  obtain ⟨ht, hn, hlm, hdn, hhn, has, hpl, hkw, hRB, hpg, hkp⟩ := id hR
  obtain ⟨hn5, hl5, hkd, hsp, hd6, hdw, hh6, hg18, hgr, hIm⟩ := id hL
  obtain ⟨b, kt, h26, h27, hkt, hk1, hk2⟩ := hkp
  refine xaload_n hx hb dX12_restore_0 hl rfl ?_
  refine xgetM hx hb hts hiX12 hown hG hw (by repeat first | assumption | exact wu_eq _ _ _ | refine wu_ne (by omega) ?_) 26 (by decide) hlnk0 (by repeat first | assumption | exact vu_eq _ _ _ | refine vu_ne (by decide) ?_) dX12_restore_1 ?_
  first | refine xifb_eq (tgt := 18) hx hb dX12_restore_4 (by decide) (fun c4 => ?_) (fun c4 => ?_) | refine xif_eq (tgt := 18) hx hb dX12_restore_4 (by decide) (by omega) (fun c4 => ?_) (fun c4 => ?_) | refine lv_if_eq (tgt := 18) hx hb dX12_restore_4 (by decide) (fun c4 => ?_) (fun c4 => ?_)
  · skip
    refine lv_bipush (v := -103) hx hb dX12_restore_18 (by decide) ?_
    have hno : sI S = none := by
      cases hq : sI S with
      | none => rfl
      | some B =>
        have h9 := hk2 B hq
        first
          | exact absurd (h9.1.symm.trans c4) (by decide)
          | exact absurd h9.2.1 c15
    have hno2 : (sI S).isSome = false := by rw [hno]; rfl
    exact xiret hx hb hr hlk hw hS dX12_restore_20 ⟨by rw [rest_n hno2], ⟨V, A, hM, by rw [rest_n hno2]; exact hR⟩, Out.rf⟩
  · skip
    refine xaload_n hx hb dX12_restore_7 hl rfl ?_
    refine xgetM hx hb hts hiX12 hown hG hw (by repeat first | assumption | exact wu_eq _ _ _ | refine wu_ne (by omega) ?_) 27 (by decide) hlnk1 (by repeat first | assumption | exact vu_eq _ _ _ | refine vu_ne (by decide) ?_) dX12_restore_8 ?_
    refine xaload_n hx hb dX12_restore_11 hl rfl ?_
    refine xgetM hx hb hts hiX12 hown hG hw (by repeat first | assumption | exact wu_eq _ _ _ | refine wu_ne (by omega) ?_) 0 (by decide) hlnk2 (by repeat first | assumption | exact vu_eq _ _ _ | refine vu_ne (by decide) ?_) dX12_restore_12 ?_
    first | refine xcmp_eq (tgt := 21) hx hb dX12_restore_15 (by decide) (by omega) (by omega) (fun c15 => ?_) (fun c15 => ?_) | refine lv_icmp_eq (tgt := 21) hx hb dX12_restore_15 (by decide) (fun c15 => ?_) (fun c15 => ?_)
    · skip
      obtain ⟨B, hB⟩ := hk1 c4 c15
      obtain ⟨-, -, h28, h29, hRB2⟩ := hk2 B hB
      have hyes := rest_y hB
      rw [hyes] at hL9
      refine xaload_n hx hb dX12_restore_21 hl rfl ?_
      refine xaload_n hx hb dX12_restore_22 hl rfl ?_
      refine xgetM hx hb hts hiX12 hown hG hw (by repeat first | assumption | exact wu_eq _ _ _ | refine wu_ne (by omega) ?_) 28 (by decide) hlnk3 (by repeat first | assumption | exact vu_eq _ _ _ | refine vu_ne (by decide) ?_) dX12_restore_23 ?_
      refine xputM (ty := .int) hx hb hts hiX12 hown hG hw hS (by repeat first | assumption | exact wu_eq _ _ _ | refine wu_ne (by omega) ?_) 7 (by decide) hlnk4 rfl (by decide +kernel) rfl rfl dX12_restore_26 (fun H locs hzz hw hS => ?_)
      refine xaload_n hx hb dX12_restore_29 hl rfl ?_
      refine xaload_n hx hb dX12_restore_30 hl rfl ?_
      refine xgetM hx hb hts hiX12 hown hG hw (by repeat first | assumption | exact wu_eq _ _ _ | refine wu_ne (by omega) ?_) 29 (by decide) hlnk5 (by repeat first | assumption | exact vu_eq _ _ _ | refine vu_ne (by decide) ?_) dX12_restore_31 ?_
      refine xputM (ty := .int) hx hb hts hiX12 hown hG hw hS (by repeat first | assumption | exact wu_eq _ _ _ | refine wu_ne (by omega) ?_) 10 (by decide) hlnk6 rfl (by decide +kernel) rfl rfl dX12_restore_34 (fun H locs hzz hw hS => ?_)
      obtain ⟨V3, hV3e⟩ : ∃ V3, V3 = vu (vu V 7 (.int (nI B.2.1.length))) 10 (.int (nI B.2.2.length)) := ⟨_, rfl⟩
      have hM3 := (hM.put (k := 7) (.int (nI B.2.1.length)) (by decide)).put (k := 10) (.int (nI B.2.2.length)) (by decide)
      rw [← hV3e] at hM3 hw
      refine lv_iconst (v := nI 0) hx hb dX12_restore_37 (by decide) ?_
      refine xistore_n hx hb dX12_restore_38 hl (by decide) rfl (fun ls hl => ?_)
      have loop39 : ∀ (nf : Nat) (k : Nat) (A1 : Nat → Nat → Int32) (w1 : Wd) (H : Heap) (locs : List Loc) (ls : Array Slot), 205 - k < nf → (k ≤ 205) → (Kr A A1 k 0 0) → (MW G w1 M0 V3 A1) → (Out w w1 M0 (M0 + 20)) → PW N0 G w1 H → va_S (fun q => N0 ≤ q) s.heap H locs → lh ls 2 [some (.ref M0), some (.int (nI k))] → W p l e (rmD 2) s m ([.ref M0] : List Value).toArray below meth c H locs 0 0 (MQ below (XQ N0 G vI (fun r w1 => (o_restore S).1 = r ∧ (∃ V1 A1, MW G w1 M0 V1 A1 ∧ RM ((o_restore S).2) V1 A1) ∧ Out w w1 M0 (M0 + 20))) ([.ref M0] : List Value).toArray s 0 0 (fun q => N0 ≤ q)) (F0 m 39 ls []) := by
        intro nf
        induction nf with
        | zero => intros; omega
        | succ nf ih39 =>
          intro k A1 w1 H locs ls hnf hk hK1 hM1 hO1 hw hS hl
          obtain ⟨hm0z, ⟨hv3z, hv4z, hv5z, hv6z, hv8z, hv9z, hv11z, hv12z, hv15z, hv18z, hv19z, hv20z, hv24z, hv30z, hv31z, hv32z, hv33z, hv34z, hv35z⟩, ha1z, ha2z, ha3z, ha4z, ha5z, ha6z, ha7z, ha8z, ha9z, ha10z, ha11z, ha12z, ha13z, ha14z, ha15z, ha16z, ha17z, ha18z, ha19z⟩ := id hM1
          refine xiload_n hx hb dX12_restore_39 hl rfl ?_
          refine lv_sipush (v := nI 205) hx hb dX12_restore_40 (by decide) ?_
          first | refine xcmp_ge (tgt := 64) hx hb dX12_restore_43 (by decide) (by omega) (by omega) (fun c43 => ?_) (fun c43 => ?_) | refine lv_icmp_ge (tgt := 64) hx hb dX12_restore_43 (by decide) (fun c43 => ?_) (fun c43 => ?_)
          · skip
            refine lv_iconst (v := nI 0) hx hb dX12_restore_64 (by decide) ?_
            refine xistore_n hx hb dX12_restore_65 hl (by decide) rfl (fun ls hl => ?_)
            have loop66 : ∀ (nf : Nat) (k : Nat) (A1 : Nat → Nat → Int32) (w1 : Wd) (H : Heap) (locs : List Loc) (ls : Array Slot), 5 - k < nf → (k ≤ 5) → (Kr A A1 205 k 0) → (MW G w1 M0 V3 A1) → (Out w w1 M0 (M0 + 20)) → PW N0 G w1 H → va_S (fun q => N0 ≤ q) s.heap H locs → lh ls 2 [some (.ref M0), some (.int (nI k))] → W p l e (rmD 2) s m ([.ref M0] : List Value).toArray below meth c H locs 0 0 (MQ below (XQ N0 G vI (fun r w1 => (o_restore S).1 = r ∧ (∃ V1 A1, MW G w1 M0 V1 A1 ∧ RM ((o_restore S).2) V1 A1) ∧ Out w w1 M0 (M0 + 20))) ([.ref M0] : List Value).toArray s 0 0 (fun q => N0 ≤ q)) (F0 m 66 ls []) := by
              intro nf
              induction nf with
              | zero => intros; omega
              | succ nf ih66 =>
                intro k A1 w1 H locs ls hnf hk hK1 hM1 hO1 hw hS hl
                obtain ⟨hm0z, ⟨hv3z, hv4z, hv5z, hv6z, hv8z, hv9z, hv11z, hv12z, hv15z, hv18z, hv19z, hv20z, hv24z, hv30z, hv31z, hv32z, hv33z, hv34z, hv35z⟩, ha1z, ha2z, ha3z, ha4z, ha5z, ha6z, ha7z, ha8z, ha9z, ha10z, ha11z, ha12z, ha13z, ha14z, ha15z, ha16z, ha17z, ha18z, ha19z⟩ := id hM1
                refine xiload_n hx hb dX12_restore_66 hl rfl ?_
                refine lv_iconst (v := nI 5) hx hb dX12_restore_67 (by decide) ?_
                first | refine xcmp_ge (tgt := 89) hx hb dX12_restore_68 (by decide) (by omega) (by omega) (fun c68 => ?_) (fun c68 => ?_) | refine lv_icmp_ge (tgt := 89) hx hb dX12_restore_68 (by decide) (fun c68 => ?_) (fun c68 => ?_)
                · skip
                  refine lv_iconst (v := nI 0) hx hb dX12_restore_89 (by decide) ?_
                  refine xistore_n hx hb dX12_restore_90 hl (by decide) rfl (fun ls hl => ?_)
                  have loop91 : ∀ (nf : Nat) (k : Nat) (A1 : Nat → Nat → Int32) (w1 : Wd) (H : Heap) (locs : List Loc) (ls : Array Slot), 6 - k < nf → (k ≤ 6) → (Kr A A1 205 5 k) → (MW G w1 M0 V3 A1) → (Out w w1 M0 (M0 + 20)) → PW N0 G w1 H → va_S (fun q => N0 ≤ q) s.heap H locs → lh ls 2 [some (.ref M0), some (.int (nI k))] → W p l e (rmD 2) s m ([.ref M0] : List Value).toArray below meth c H locs 0 0 (MQ below (XQ N0 G vI (fun r w1 => (o_restore S).1 = r ∧ (∃ V1 A1, MW G w1 M0 V1 A1 ∧ RM ((o_restore S).2) V1 A1) ∧ Out w w1 M0 (M0 + 20))) ([.ref M0] : List Value).toArray s 0 0 (fun q => N0 ≤ q)) (F0 m 91 ls []) := by
                    intro nf
                    induction nf with
                    | zero => intros; omega
                    | succ nf ih91 =>
                      intro k A1 w1 H locs ls hnf hk hK1 hM1 hO1 hw hS hl
                      obtain ⟨hm0z, ⟨hv3z, hv4z, hv5z, hv6z, hv8z, hv9z, hv11z, hv12z, hv15z, hv18z, hv19z, hv20z, hv24z, hv30z, hv31z, hv32z, hv33z, hv34z, hv35z⟩, ha1z, ha2z, ha3z, ha4z, ha5z, ha6z, ha7z, ha8z, ha9z, ha10z, ha11z, ha12z, ha13z, ha14z, ha15z, ha16z, ha17z, ha18z, ha19z⟩ := id hM1
                      refine xiload_n hx hb dX12_restore_91 hl rfl ?_
                      refine lv_bipush (v := nI 6) hx hb dX12_restore_92 (by decide) ?_
                      first | refine xcmp_ge (tgt := 151) hx hb dX12_restore_94 (by decide) (by omega) (by omega) (fun c94 => ?_) (fun c94 => ?_) | refine lv_icmp_ge (tgt := 151) hx hb dX12_restore_94 (by decide) (fun c94 => ?_) (fun c94 => ?_)
                      · skip
                        have hR9 : RM (stB S B) V3 A1 := by rw [hV3e]; exact rm_restore hR hL hB (by rw [show k = 6 by omega] at hK1; exact hK1)
                        refine xaload_n hx hb dX12_restore_151 hl rfl ?_
                        refine xVi ⟨hx, hb, hml, hown, hts⟩ (kX12_lentAll l N0 G _ _ V3 A1 hM1 (stB S B) hR9 hL9) (cwV 0 hts gX12_restore_X12_lentAll rfl rfl rfl (by decide +kernel) ⟨Nat.le_of_ble_eq_true rfl, Nat.le_of_ble_eq_true rfl⟩) hG hN hw hS (ci := 12) hM1.1 rfl rfl hl.1 rfl (Nat.le_of_ble_eq_true rfl) dX12_restore_152 ⟨Nat.le_of_ble_eq_true rfl, Nat.le_of_ble_eq_true rfl⟩ (fun r152 w152 H locs hp152 hw hS => ?_)
                        obtain ⟨rfl, rfl⟩ := hp152
                        exact xiret hx hb hr hlk hw hS dX12_restore_155 ⟨by rw [hyes]; rfl, ⟨V3, A1, hM1, by rw [hyes]; exact hR9⟩, hO1⟩
                      · skip
                        refine xaload_n hx hb dX12_restore_97 hl rfl ?_
                        refine xgetM hx hb hts hiX12 hown hG hw (by repeat first | assumption | exact wu_eq _ _ _ | refine wu_ne (by omega) ?_) 8 (by decide) hlnk7 (by repeat first | assumption | exact vu_eq _ _ _ | refine vu_ne (by decide) ?_) dX12_restore_98 ?_
                        refine xiload_n hx hb dX12_restore_101 hl rfl ?_
                        refine xaload_n hx hb dX12_restore_102 hl rfl ?_
                        refine xgetM hx hb hts hiX12 hown hG hw (by repeat first | assumption | exact wu_eq _ _ _ | refine wu_ne (by omega) ?_) 32 (by decide) hlnk8 (by repeat first | assumption | exact vu_eq _ _ _ | refine vu_ne (by decide) ?_) dX12_restore_103 ?_
                        refine xiload_n hx hb dX12_restore_106 hl rfl ?_
                        refine xiald hx hb hG hw (by repeat first | assumption | exact wu_eq _ _ _ | refine wu_ne (by omega) ?_) (by omega) (by omega) dX12_restore_107 ?_
                        refine xiast hx hb hG hw hS (by repeat first | assumption | exact wu_eq _ _ _ | refine wu_ne (by omega) ?_) (by omega) (by omega) dX12_restore_108 (fun H locs hzz hw hS => ?_)
                        refine xaload_n hx hb dX12_restore_109 hl rfl ?_
                        refine xgetM hx hb hts hiX12 hown hG hw (by repeat first | assumption | exact wu_eq _ _ _ | refine wu_ne (by omega) ?_) 9 (by decide) hlnk9 (by repeat first | assumption | exact vu_eq _ _ _ | refine vu_ne (by decide) ?_) dX12_restore_110 ?_
                        refine xiload_n hx hb dX12_restore_113 hl rfl ?_
                        refine xaload_n hx hb dX12_restore_114 hl rfl ?_
                        refine xgetM hx hb hts hiX12 hown hG hw (by repeat first | assumption | exact wu_eq _ _ _ | refine wu_ne (by omega) ?_) 33 (by decide) hlnk10 (by repeat first | assumption | exact vu_eq _ _ _ | refine vu_ne (by decide) ?_) dX12_restore_115 ?_
                        refine xiload_n hx hb dX12_restore_118 hl rfl ?_
                        refine xiald hx hb hG hw (by repeat first | assumption | exact wu_eq _ _ _ | refine wu_ne (by omega) ?_) (by omega) (by omega) dX12_restore_119 ?_
                        refine xiast hx hb hG hw hS (by repeat first | assumption | exact wu_eq _ _ _ | refine wu_ne (by omega) ?_) (by omega) (by omega) dX12_restore_120 (fun H locs hzz hw hS => ?_)
                        refine xaload_n hx hb dX12_restore_121 hl rfl ?_
                        refine xgetM hx hb hts hiX12 hown hG hw (by repeat first | assumption | exact wu_eq _ _ _ | refine wu_ne (by omega) ?_) 11 (by decide) hlnk11 (by repeat first | assumption | exact vu_eq _ _ _ | refine vu_ne (by decide) ?_) dX12_restore_122 ?_
                        refine xiload_n hx hb dX12_restore_125 hl rfl ?_
                        refine xaload_n hx hb dX12_restore_126 hl rfl ?_
                        refine xgetM hx hb hts hiX12 hown hG hw (by repeat first | assumption | exact wu_eq _ _ _ | refine wu_ne (by omega) ?_) 34 (by decide) hlnk12 (by repeat first | assumption | exact vu_eq _ _ _ | refine vu_ne (by decide) ?_) dX12_restore_127 ?_
                        refine xiload_n hx hb dX12_restore_130 hl rfl ?_
                        refine xiald hx hb hG hw (by repeat first | assumption | exact wu_eq _ _ _ | refine wu_ne (by omega) ?_) (by omega) (by omega) dX12_restore_131 ?_
                        refine xiast hx hb hG hw hS (by repeat first | assumption | exact wu_eq _ _ _ | refine wu_ne (by omega) ?_) (by omega) (by omega) dX12_restore_132 (fun H locs hzz hw hS => ?_)
                        refine xaload_n hx hb dX12_restore_133 hl rfl ?_
                        refine xgetM hx hb hts hiX12 hown hG hw (by repeat first | assumption | exact wu_eq _ _ _ | refine wu_ne (by omega) ?_) 12 (by decide) hlnk13 (by repeat first | assumption | exact vu_eq _ _ _ | refine vu_ne (by decide) ?_) dX12_restore_134 ?_
                        refine xiload_n hx hb dX12_restore_137 hl rfl ?_
                        refine xaload_n hx hb dX12_restore_138 hl rfl ?_
                        refine xgetM hx hb hts hiX12 hown hG hw (by repeat first | assumption | exact wu_eq _ _ _ | refine wu_ne (by omega) ?_) 35 (by decide) hlnk14 (by repeat first | assumption | exact vu_eq _ _ _ | refine vu_ne (by decide) ?_) dX12_restore_139 ?_
                        refine xiload_n hx hb dX12_restore_142 hl rfl ?_
                        refine xiald hx hb hG hw (by repeat first | assumption | exact wu_eq _ _ _ | refine wu_ne (by omega) ?_) (by omega) (by omega) dX12_restore_143 ?_
                        refine xiast hx hb hG hw hS (by repeat first | assumption | exact wu_eq _ _ _ | refine wu_ne (by omega) ?_) (by omega) (by omega) dX12_restore_144 (fun H locs hzz hw hS => ?_)
                        first | refine xiincN hx hb 1 dX12_restore_145 hl rfl (by decide) (by decide) rfl (fun ls hl => ?_) | refine xiinc hx hb dX12_restore_145 hl rfl rfl (by decide) rfl (fun ls hl => ?_)
                        refine lv_goto (tgt := 91) hx hb dX12_restore_148 (by decide) ?_
                        exact ih91 (k + 1) _ _ _ _ _ (by omega) (by omega) hK1.s3 ((((hM1.a5 _).a6 _).a7 _).a8 _) ((((hO1.wu (by omega) (by omega)).wu (by omega) (by omega)).wu (by omega) (by omega)).wu (by omega) (by omega)) hw hS hl
                  exact loop91 7 0 A1 _ _ _ _ (by omega) (by omega) (by rw [show k = 5 by omega] at hK1; exact hK1) hM1 hO1 hw hS hl
                · skip
                  refine xaload_n hx hb dX12_restore_71 hl rfl ?_
                  refine xgetM hx hb hts hiX12 hown hG hw (by repeat first | assumption | exact wu_eq _ _ _ | refine wu_ne (by omega) ?_) 6 (by decide) hlnk15 (by repeat first | assumption | exact vu_eq _ _ _ | refine vu_ne (by decide) ?_) dX12_restore_72 ?_
                  refine xiload_n hx hb dX12_restore_75 hl rfl ?_
                  refine xaload_n hx hb dX12_restore_76 hl rfl ?_
                  refine xgetM hx hb hts hiX12 hown hG hw (by repeat first | assumption | exact wu_eq _ _ _ | refine wu_ne (by omega) ?_) 31 (by decide) hlnk16 (by repeat first | assumption | exact vu_eq _ _ _ | refine vu_ne (by decide) ?_) dX12_restore_77 ?_
                  refine xiload_n hx hb dX12_restore_80 hl rfl ?_
                  refine xiald hx hb hG hw (by repeat first | assumption | exact wu_eq _ _ _ | refine wu_ne (by omega) ?_) (by omega) (by omega) dX12_restore_81 ?_
                  refine xiast hx hb hG hw hS (by repeat first | assumption | exact wu_eq _ _ _ | refine wu_ne (by omega) ?_) (by omega) (by omega) dX12_restore_82 (fun H locs hzz hw hS => ?_)
                  first | refine xiincN hx hb 1 dX12_restore_83 hl rfl (by decide) (by decide) rfl (fun ls hl => ?_) | refine xiinc hx hb dX12_restore_83 hl rfl rfl (by decide) rfl (fun ls hl => ?_)
                  refine lv_goto (tgt := 66) hx hb dX12_restore_86 (by decide) ?_
                  exact ih66 (k + 1) _ _ _ _ _ (by omega) (by omega) hK1.s2 (hM1.a4 _) (hO1.wu (by omega) (by omega)) hw hS hl
            exact loop66 6 0 A1 _ _ _ _ (by omega) (by omega) (by rw [show k = 205 by omega] at hK1; exact hK1) hM1 hO1 hw hS hl
          · skip
            refine xaload_n hx hb dX12_restore_46 hl rfl ?_
            refine xgetM hx hb hts hiX12 hown hG hw (by repeat first | assumption | exact wu_eq _ _ _ | refine wu_ne (by omega) ?_) 5 (by decide) hlnk17 (by repeat first | assumption | exact vu_eq _ _ _ | refine vu_ne (by decide) ?_) dX12_restore_47 ?_
            refine xiload_n hx hb dX12_restore_50 hl rfl ?_
            refine xaload_n hx hb dX12_restore_51 hl rfl ?_
            refine xgetM hx hb hts hiX12 hown hG hw (by repeat first | assumption | exact wu_eq _ _ _ | refine wu_ne (by omega) ?_) 30 (by decide) hlnk18 (by repeat first | assumption | exact vu_eq _ _ _ | refine vu_ne (by decide) ?_) dX12_restore_52 ?_
            refine xiload_n hx hb dX12_restore_55 hl rfl ?_
            refine xiald hx hb hG hw (by repeat first | assumption | exact wu_eq _ _ _ | refine wu_ne (by omega) ?_) (by omega) (by omega) dX12_restore_56 ?_
            refine xiast hx hb hG hw hS (by repeat first | assumption | exact wu_eq _ _ _ | refine wu_ne (by omega) ?_) (by omega) (by omega) dX12_restore_57 (fun H locs hzz hw hS => ?_)
            first | refine xiincN hx hb 1 dX12_restore_58 hl rfl (by decide) (by decide) rfl (fun ls hl => ?_) | refine xiinc hx hb dX12_restore_58 hl rfl rfl (by decide) rfl (fun ls hl => ?_)
            refine lv_goto (tgt := 39) hx hb dX12_restore_61 (by decide) ?_
            exact ih39 (k + 1) _ _ _ _ _ (by omega) (by omega) hK1.s1 (hM1.a3 _) (hO1.wu (by omega) (by omega)) hw hS hl
      exact loop39 206 0 A _ _ _ _ (by omega) (by omega) Kr.rf hM3 ((Out.rf.wu (by omega) (by omega)).wu (by omega) (by omega)) hw hS hl
    · skip
      refine lv_bipush (v := -103) hx hb dX12_restore_18 (by decide) ?_
      have hno : sI S = none := by
        cases hq : sI S with
        | none => rfl
        | some B =>
          have h9 := hk2 B hq
          first
            | exact absurd (h9.1.symm.trans c4) (by decide)
            | exact absurd h9.2.1 c15
      have hno2 : (sI S).isSome = false := by rw [hno]; rfl
      exact xiret hx hb hr hlk hw hS dX12_restore_20 ⟨by rw [rest_n hno2], ⟨V, A, hM, by rw [rest_n hno2]; exact hR⟩, Out.rf⟩
