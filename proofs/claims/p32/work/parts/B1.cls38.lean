/-! ===== the descent and the reference's reading come to the same ===== -/
theorem stF_lt {S : zS2} {L p p' : Nat} {w w' : Bool} {ks op ks' op' : List Nat} {fr fr' : List (Bool × Nat × Nat)} (hp : p < L) (h : stF S L w p ks op fr = .inr (w', p', ks', op', fr')) : p < p' := by
  unfold stF at h
  by_cases h1 : w = true ∧ figB (S 68 p) = true
  · rw [if_pos h1] at h
    have : 0 < ndF S L p 4 := ndF_pos (f := 3) hp h1.2
    injection h with h; injection h with _ h; injection h with h _
    omega
  · rw [if_neg h1] at h
    repeat' split at h
    all_goals first
      | (cases h; done)
      | (injection h with h; injection h with _ h; injection h with h _; first | omega | (rw [← h]; unfold nmP; split <;> omega))
theorem rnF_fu {S : zS2} {L : Nat} : ∀ (f f' : Nat) {w : Bool} {p : Nat} {ks op : List Nat} {fr : List (Bool × Nat × Nat)}, L - p ≤ f → L - p ≤ f' → rnF S L f w p ks op fr = rnF S L f' w p ks op fr := by
  intro f
  induction f with
  | zero =>
    intro f' w p ks op fr h1 h2
    cases f' with
    | zero => rfl
    | succ f' => rw [rnF_e (by omega)]; rfl
  | succ f ih =>
    intro f' w p ks op fr h1 h2
    by_cases hp : p < L
    · cases f' with
      | zero => omega
      | succ f' =>
        cases hs : stF S L w p ks op fr with
        | inl q => rw [rnF_l hp hs, rnF_l hp hs]
        | inr s =>
          obtain ⟨w', p', ks', op', fr'⟩ := s
          have hlt := stF_lt hp hs
          rw [rnF_r hp hs, rnF_r hp hs]
          exact ih f' (by omega) (by omega)
    · rw [rnF_e hp]
      cases f' with
      | zero => rfl
      | succ f' => rw [rnF_e hp]
def mch (S : zS2) (L : Nat) (w : Bool) (p : Nat) (ks op : List Nat) (fr : List (Bool × Nat × Nat)) : Nat ⊕ zPS := rnF S L 31 w p ks op fr
theorem mch_r {S : zS2} {L p p' : Nat} {w w' : Bool} {ks op ks' op' : List Nat} {fr fr' : List (Bool × Nat × Nat)} (hL : L ≤ 30) (hp : p < L) (h : stF S L w p ks op fr = .inr (w', p', ks', op', fr')) : mch S L w p ks op fr = mch S L w' p' ks' op' fr' := by
  unfold mch
  rw [rnF_r hp h]
  exact rnF_fu 30 31 (by omega) (by omega)
theorem mch_l {S : zS2} {L p q : Nat} {w : Bool} {ks op : List Nat} {fr : List (Bool × Nat × Nat)} (hp : p < L) (h : stF S L w p ks op fr = .inl q) : mch S L w p ks op fr = .inl q := rnF_l hp h
theorem mch_e {S : zS2} {L p : Nat} {w : Bool} {ks op : List Nat} {fr : List (Bool × Nat × Nat)} (hp : ¬ p < L) : mch S L w p ks op fr = .inr (w, p, ks, op, fr) := rnF_e hp
theorem txN_k {S : zS2} {p n : Nat} (h : S 68 p = nI n) (hn : n < 1000) : txN S p = n := by unfold txN; rw [h]; exact nI_clamp (by omega)
section ST
variable {S : zS2} {L p : Nat} {ks op : List Nat} {fr fs : List (Bool × Nat × Nat)} {f : Bool × Nat × Nat}
theorem st_num (h : figB (S 68 p) = true) : stF S L true p ks op fr = .inr (false, p + ndF S L p 4, nvF S p (ndF S L p 4) :: ks, op, fr) := by
  unfold stF; rw [if_pos ⟨rfl, h⟩]
theorem nam_c {a : Int32} (h : namB a = true) : figB a = false ∧ a ≠ 45 ∧ a ≠ 40 ∧ funB a = false := by
  rcases namB_c h with rfl | rfl | rfl <;> decide
theorem fun_c {a : Int32} (h : funB a = true) : figB a = false ∧ a ≠ 45 ∧ a ≠ 40 ∧ namB a = false := by
  rcases funB_c h with rfl | rfl | rfl <;> decide
theorem fz {a : Int32} {b : Bool} (h : b = false) : ¬ (true = true ∧ b = true) := fun q => by rw [h] at q; exact absurd q.2 (by decide)
theorem st_nam (h : namB (S 68 p) = true) : stF S L true p ks op fr = (if nmBad S L p = true then .inl (p + 1) else .inr (false, nmP S L p, (nmBase (S 68 p) + nmV S L p) :: ks, op, fr)) := by
  unfold stF; rw [if_neg (fz (a := 0) (nam_c h).1), if_pos ⟨rfl, h⟩]
theorem st_neg (h : S 68 p = 45) : stF S L true p ks op fr = .inr (true, p + 1, ks, 1 :: op, fr) := by
  unfold stF; rw [if_neg (fz (a := 0) (by rw [h]; decide)), if_neg (fz (a := 0) (by rw [h]; decide)), if_pos ⟨rfl, h⟩]
theorem st_opn (h : S 68 p = 40) (hp : p < L) : stF S L true p ks op fr = .inr (true, p + 1, ks, 11 :: op, (false, 40, 1) :: fr) := by
  have e := txN_k (S := S) (p := p) (n := 40) h (by decide)
  unfold stF; rw [if_neg (fz (a := 0) (by rw [h]; decide)), if_neg (fz (a := 0) (by rw [h]; decide)), if_neg (fun q => absurd (h.symm.trans q.2) (by decide)), if_pos ⟨rfl, Or.inl h⟩]
  simp only [if_pos h]
  rw [if_neg (fun q => q.elim (fun z => by omega) (fun z => z h)), e]
theorem st_fun (h : funB (S 68 p) = true) : stF S L true p ks op fr = (if p + 1 = L ∨ S 68 (p + 1) ≠ 40 then .inl (p + 1) else .inr (true, p + 1 + 1, ks, 11 :: op, (false, txN S p, if S 68 p = 105 then 3 else 2) :: fr)) := by
  obtain ⟨a1, a2, a3, a4⟩ := fun_c h
  unfold stF; rw [if_neg (fz (a := 0) a1), if_neg (fz (a := 0) a4), if_neg (fun q => a2 q.2), if_pos ⟨rfl, Or.inr h⟩]
  simp only [if_neg a3]
theorem st_bad (h1 : ¬ figB (S 68 p) = true) (h2 : S 68 p ≠ 45) (h3 : S 68 p ≠ 40) (h4 : ¬ namB (S 68 p) = true) (h5 : ¬ funB (S 68 p) = true) : stF S L true p ks op fr = .inl p := by
  unfold stF; rw [if_neg (fun q => h1 q.2), if_neg (fun q => h4 q.2), if_neg (fun q => h2 q.2), if_neg (fun q => q.2.elim h3 h5), if_pos rfl]
theorem sf_0 : stF S L false p ks op (f :: fs) = (if 0 < deedN (S 68 p) then
        (if 5 ≤ deedN (S 68 p) ∧ f.1 = true then .inl p
         else .inr (true, p + 1, (clsF (rkN (deedN (S 68 p)).toNatClampNeg) ks op).1, (deedN (S 68 p)).toNatClampNeg :: (clsF (rkN (deedN (S 68 p)).toNatClampNeg) ks op).2, (f.1 || decide (5 ≤ deedN (S 68 p)), f.2) :: fs))
      else if S 68 p = 44 ∧ fs ≠ [] ∧ 1 < f.2.2 then .inr (true, p + 1, (clsF 0 ks op).1, (clsF 0 ks op).2, (false, f.2.1, f.2.2 - 1) :: fs)
      else if S 68 p = 41 ∧ fs ≠ [] ∧ f.2.2 = 1 then
        .inr (false, p + 1, (if f.2.1 ≠ 40 then (30000 + (if f.2.1 = 109 then 8 else if f.2.1 = 110 then 9 else 10)) :: (clsF 0 ks op).1 else (clsF 0 ks op).1), (clsF 0 ks op).2.tail, fs)
      else .inl p) := by
  have n : ∀ q : Prop, ¬ (false = true ∧ q) := fun _ z => absurd z.1 (by decide)
  unfold stF
  rw [if_neg (n _), if_neg (n _), if_neg (n _), if_neg (n _), if_neg (by decide)]
theorem sf_op {a : Int32} {d r : Nat} (h : S 68 p = a) (hd : deedN a = nI d) (h5 : 1 ≤ d ∧ d < 5) (hr : rkN d = r) : stF S L false p ks op (f :: fs) = .inr (true, p + 1, (clsF r ks op).1, d :: (clsF r ks op).2, f :: fs) := by
  have e : (nI d).toNatClampNeg = d := nI_clamp (by omega)
  have l5 : ¬ (5 : Int32) ≤ nI d := Int32.not_le.mpr (nI_lt (a := d) (b := 5) (by omega) (by decide))
  rw [sf_0, h, hd, if_pos (show (0 : Int32) < nI d from nI_lt (a := 0) (b := d) (by omega) (by omega)), if_neg (fun q => l5 q.1), e, hr, decide_eq_false l5, Bool.or_false]
theorem sf_cmp {a : Int32} (h : S 68 p = a) (hc : cmpO a ≠ -1) (hf : f.1 = false) : stF S L false p ks op (f :: fs) = .inr (true, p + 1, (clsF 1 ks op).1, cmD a :: (clsF 1 ks op).2, (true, f.2) :: fs) := by
  have key : 0 < deedN a ∧ (5 : Int32) ≤ deedN a ∧ (deedN a).toNatClampNeg = cmD a ∧ rkN (cmD a) = 1 := by
    unfold cmpO at hc
    by_cases h1 : a = 60
    · rw [h1]; decide
    · by_cases h2 : a = 62
      · rw [h2]; decide
      · by_cases h3 : a = 61
        · rw [h3]; decide
        · rw [if_neg h1, if_neg h2, if_neg h3] at hc; exact absurd rfl hc
  rw [sf_0, h, if_pos key.1, if_neg (fun q => by rw [hf] at q; exact absurd q.2 (by decide)), key.2.2.1, key.2.2.2, decide_eq_true key.2.1, Bool.or_true]
theorem dd0 {a : Int32} (h1 : a ≠ 42) (h2 : a ≠ 43) (h3 : a ≠ 45) (h4 : cmpO a = -1) : ¬ 0 < deedN a := by
  have g : a ≠ 60 ∧ a ≠ 62 ∧ a ≠ 61 := by
    refine ⟨fun q => ?_, fun q => ?_, fun q => ?_⟩ <;> (rw [q] at h4; exact absurd h4 (by decide))
  unfold deedN
  rw [if_neg h2, if_neg h3, if_neg h1, if_neg g.1, if_neg g.2.1, if_neg g.2.2]
  decide
theorem cm5 {a : Int32} (h4 : cmpO a ≠ -1) : 0 < deedN a ∧ (5 : Int32) ≤ deedN a := by
  unfold cmpO at h4
  by_cases h1 : a = 60
  · rw [h1]; decide
  · by_cases h2 : a = 62
    · rw [h2]; decide
    · by_cases h3 : a = 61
      · rw [h3]; decide
      · rw [if_neg h1, if_neg h2, if_neg h3] at h4; exact absurd rfl h4
theorem sf_comma (h : S 68 p = 44) (hs : fs ≠ []) (hn : 1 < f.2.2) : stF S L false p ks op (f :: fs) = .inr (true, p + 1, (clsF 0 ks op).1, (clsF 0 ks op).2, (false, f.2.1, f.2.2 - 1) :: fs) := by
  rw [sf_0, h, if_neg (by decide), if_pos ⟨rfl, hs, hn⟩]
theorem sf_shut (h : S 68 p = 41) (hs : fs ≠ []) (hn : f.2.2 = 1) : stF S L false p ks op (f :: fs) = .inr (false, p + 1, (if f.2.1 ≠ 40 then (30000 + (if f.2.1 = 109 then 8 else if f.2.1 = 110 then 9 else 10)) :: (clsF 0 ks op).1 else (clsF 0 ks op).1), (clsF 0 ks op).2.tail, fs) := by
  rw [sf_0, h, if_neg (by decide), if_neg (fun q => absurd q.1 (by decide)), if_pos ⟨rfl, hs, hn⟩]
/-- no operator, or a second comparison; no sign that fits -/
theorem sf_bad (h1 : S 68 p ≠ 42) (h2 : S 68 p ≠ 43) (h3 : S 68 p ≠ 45) (h4 : f.1 = true ∨ cmpO (S 68 p) = -1) (h5 : ¬ (S 68 p = 44 ∧ fs ≠ [] ∧ 1 < f.2.2)) (h6 : ¬ (S 68 p = 41 ∧ fs ≠ [] ∧ f.2.2 = 1)) : stF S L false p ks op (f :: fs) = .inl p := by
  rw [sf_0]
  by_cases q : cmpO (S 68 p) = -1
  · rw [if_neg (dd0 h1 h2 h3 q), if_neg h5, if_neg h6]
  · obtain ⟨a1, a2⟩ := cm5 q
    rw [if_pos a1, if_pos ⟨a2, h4.resolve_right q⟩]
end ST

