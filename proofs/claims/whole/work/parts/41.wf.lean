/-! ===== what every call keeps ===== -/
theorem onR_ind {α : Type} {x : Int32} {n : Nat} {a : Nat → α} {b : α} {Q : α → Prop} (ha : ∀ i, i < n → Q (a i)) (hb : Q b) : Q (onR x n a b) := by
  rcases inR_or x n with ⟨i, hi, h31, rfl⟩ | h
  · rw [onR_in hi h31]; exact ha i hi
  · rw [onR_out h]; exact hb
def GQ (k : Nat) (q : Int32 × QS) : Prop := WF q.2 ∧ sT q.2 ≤ k + 1
theorem gq_same {S : QS} {k : Nat} {c : Int32} (hW : WF S) (hT : sT S ≤ k) : GQ k (c, S) := ⟨hW, Nat.le_succ_of_le hT⟩
theorem gq_letter {S : QS} {k : Nat} (x : Int32) (hW : WF S) (hT : sT S ≤ k) : GQ k (o_letter S x) := by
  unfold o_letter
  refine onR_ind (Q := GQ k) (fun i hi => ?_) (gq_same hW hT)
  split
  · exact gq_same hW hT
  · split
    · exact gq_same hW hT
    · exact ⟨hW, Nat.le_succ_of_le hT⟩
theorem gq_town {S : QS} {k : Nat} (hW : WF S) (hT : sT S ≤ k) (hk : k ≤ 900) : GQ k (o_town S) := by
  unfold o_town
  split
  · refine ⟨⟨⟨fun i hi x hx => ?_, fun i h1 h2 => ?_, fun i hi => absurd hi (Nat.not_lt_zero i), fun q hq => absurd hq List.not_mem_nil⟩, fun B hB => ?_, ?_, hW.2.2.2⟩, Nat.succ_le_succ hT⟩
    · have hx : x ∈ [i] := hx
      rw [List.mem_singleton.mp hx]; exact hi
    · have h1 : (tP (sg S)).length ≤ i := h1
      show ([i] : List Nat).length = 1 ∧ (tP (sg S)).length ≤ ([i] : List Nat).getD 0 0 ∧ ([i] : List Nat).getD 0 0 < 100
      exact ⟨rfl, h1, show i < 100 by omega⟩
    · cases hB
    · show sT S + 1 ≤ 1000
      omega
  · exact gq_same hW hT
theorem gq_lend {S : QS} {k : Nat} (x y : Int32) (hW : WF S) (hT : sT S ≤ k) : GQ k (o_lend S x y) := by
  unfold o_lend
  refine onR_ind (Q := GQ k) (fun p hp => onR_ind (Q := GQ k) (fun t ht => ?_) (gq_same hW hT)) (gq_same hW hT)
  unfold lendN
  split
  · split
    · exact gq_same hW hT
    · refine ⟨⟨⟨fun i hi z hz => ?_, fun i h1 h2 => ?_, hW.1.2.2.1, hW.1.2.2.2⟩, hW.2⟩, Nat.le_succ_of_le hT⟩
      · have hz : z ∈ va_up (sB S).1 p (t :: sp S p) i := hz
        by_cases e : i = p
        · rw [e, vup_eq] at hz
          rcases List.mem_cons.mp hz with q | q
          · rw [q]; exact ht
          · exact hW.1.1 p hp z q
        · rw [vup_ne _ _ e] at hz
          exact hW.1.1 i hi z hz
      · have h1 : sn S ≤ i := h1
        show (va_up (sB S).1 p (t :: sp S p) i).length = 1 ∧ sn S ≤ (va_up (sB S).1 p (t :: sp S p) i).getD 0 0 ∧ (va_up (sB S).1 p (t :: sp S p) i).getD 0 0 < 100
        rw [vup_ne _ _ (by omega)]
        exact hW.1.2.1 i h1 h2
  · exact gq_same hW hT
theorem gq_sign {S : QS} {k : Nat} (x y : Int32) (hW : WF S) (hT : sT S ≤ k) : GQ k (o_sign S x y) := by
  unfold o_sign
  refine onR_ind (Q := GQ k) (fun p hp => onR_ind (Q := GQ k) (fun t ht => ?_) (gq_same hW hT)) (gq_same hW hT)
  unfold signN
  split
  · exact gq_same hW hT
  · split
    · exact gq_same hW hT
    · split
      · exact gq_same hW hT
      · refine ⟨⟨⟨hW.1.1, hW.1.2.1, fun i hi => ?_, hW.1.2.2.2⟩, hW.2⟩, Nat.le_succ_of_le hT⟩
        have hi : i < (sd S ++ [(t, bnd (sP S) (sL S) (sp S p))]).length := hi
        rw [List.length_append, List.length_singleton] at hi
        show bd (sd S ++ [(t, bnd (sP S) (sL S) (sp S p))]) i < 2 ^ sn S
        unfold bd
        by_cases q : i = (sd S).length
        · rw [q, List.getD_eq_getElem?_getD, List.getElem?_append_right (Nat.le_refl _), Nat.sub_self]
          exact bnd_lt (m := sn S) (fun z hz => hW.1.1 p hp z hz)
        · rw [List.getD_eq_getElem?_getD, List.getElem?_append_left (by omega), ← List.getD_eq_getElem?_getD]
          exact hW.1.2.2.1 i (by show i < (sd S).length; omega)
theorem gq_free {S : QS} {k : Nat} (x y : Int32) (hW : WF S) (hT : sT S ≤ k) : GQ k (o_free S x y) := by
  unfold o_free
  refine onR_ind (Q := GQ k) (fun d hd => onR_ind (Q := GQ k) (fun p hp => ?_) (gq_same hW hT)) (gq_same hW hT)
  unfold freeN
  split
  · refine ⟨⟨⟨hW.1.1, hW.1.2.1, fun i hi => ?_, hW.1.2.2.2⟩, hW.2⟩, Nat.le_succ_of_le hT⟩
    have hi : i < ((sd S).set d (dbt (sd S) d, clr (bd (sd S) d) p)).length := hi
    rw [List.length_set] at hi
    show bd ((sd S).set d (dbt (sd S) d, clr (bd (sd S) d) p)) i < 2 ^ sn S
    rw [(dbt_set hd).2]
    by_cases q : i = d
    · rw [if_pos q]
      exact Nat.lt_of_le_of_lt Nat.and_le_left (hW.1.2.2.1 d hd)
    · rw [if_neg q]
      exact hW.1.2.2.1 i hi
  · exact gq_same hW hT
theorem gq_way {S : QS} {k : Nat} (x y z : Int32) (hW : WF S) (hT : sT S ≤ k) : GQ k (o_way S x y z) := by
  unfold o_way
  refine onR_ind (Q := GQ k) (fun p hp => onR_ind (Q := GQ k) (fun st hst => onR_ind (Q := GQ k) (fun t ht => ?_) (gq_same hW hT)) (gq_same hW hT)) (gq_same hW hT)
  unfold wayN
  split
  · exact gq_same hW hT
  · refine ⟨⟨hW.1, hW.2.1, hW.2.2.1, ?_⟩, Nat.le_succ_of_le hT⟩
    show sA S + 1 ≤ 40
    omega
theorem gq_hear {S : QS} {k : Nat} (x : Int32) (v : Bool) (hW : WF S) (hT : sT S ≤ k) : GQ k (o_hear S x v) := by
  unfold o_hear
  refine onR_ind (Q := GQ k) (fun p hp => ?_) (gq_same hW hT)
  unfold hearN
  split
  · exact gq_same hW hT
  · refine ⟨⟨⟨hW.1.1, hW.1.2.1, hW.1.2.2.1, fun q hq => ?_⟩, hW.2⟩, Nat.le_succ_of_le hT⟩
    have hq : q ∈ sh S ++ [(p, v)] := hq
    rcases List.mem_append.mp hq with h | h
    · exact hW.1.2.2.2 q h
    · rw [List.mem_singleton.mp h]; exact hp
theorem gq_image {S : QS} {k : Nat} (hW : WF S) (hT : sT S ≤ k) : GQ k (o_image S) := by
  unfold o_image
  split
  · exact gq_same hW hT
  · refine ⟨⟨hW.1, fun B hB => ?_, hW.2.2⟩, Nat.le_succ_of_le hT⟩
    have e : sB S = B := Option.some.inj hB
    rw [← e]; exact hW.1
theorem gq_restore {S : QS} {k : Nat} (hW : WF S) (hT : sT S ≤ k) : GQ k (o_restore S) := by
  unfold o_restore
  cases hq : sI S with
  | none => exact gq_same hW hT
  | some B => exact ⟨⟨hW.2.1 B hq, hW.2⟩, Nat.le_succ_of_le hT⟩
theorem wf_00 : WF S00 := ⟨⟨fun i hi => absurd hi (Nat.not_lt_zero i), fun i _ _ => ⟨rfl, Nat.le_refl 0, show (0 : Nat) < 100 by decide⟩, fun i hi => absurd hi (Nat.not_lt_zero i), fun q hq => absurd hq List.not_mem_nil⟩, (fun B hB => by cases hB), Nat.zero_le _, Nat.zero_le _⟩
theorem RLQ.out {G : XG} {w w1 : Wd} {x0 Z lo hi : Nat} {S : QS} (h : RLQ G w x0 Z S) (ho : Out w w1 lo hi) (h1 : x0 + 52 ≤ lo) (h2 : hi ≤ Z) : RLQ G w1 x0 Z S := by
  obtain ⟨hx0, hPg, hTn, hBk, ⟨Bi, hBi, hBie⟩, ⟨hs, Ts, fw, fr, hSr⟩, ⟨dsF, hdF, F, hFr⟩⟩ := h
  exact ⟨(ho _ (by omega)).trans hx0, hPg.out ho (by omega), hTn.out ho (by omega) h2, hBk.out ho (by omega), ⟨Bi, hBi.out ho (by omega), hBie⟩, ⟨hs, Ts, fw, fr, hSr.out ho (by omega)⟩, ⟨dsF, hdF, F, hFr.out ho (by omega)⟩⟩
/-- class and reference show one state -/
def LI (G : XG) (w : Wd) (N : Nat) (S : QS) (V : Nat → Value) (A : Nat → Nat → Int32) : Prop := RLQ G w N (N + 72) S ∧ MW G w (N + 52) V A ∧ RM S V A ∧ WF S
