/-- nothing on top is made by an operator of this rank -/
def lowR (r : Nat) (op : List Nat) : Prop := match op with
  | [] => True
  | d :: _ => ¬ (d ≠ 11 ∧ r ≤ rkN d)
theorem lowR.eq {r : Nat} {op : List Nat} (h : lowR r op) (k : List Nat) : clsF r k op = (k, op) := by
  cases op with
  | nil => rfl
  | cons d s => exact clsF_n h
theorem lowR.le {r r' : Nat} {op : List Nat} (h : lowR r op) (hr : r ≤ r') : lowR r' op := by
  cases op with
  | nil => trivial
  | cons d s => exact fun q => h ⟨q.1, Nat.le_trans hr q.2⟩
theorem lowR.op {r d : Nat} (op : List Nat) (h : rkN d < r) : lowR r (d :: op) := fun q => absurd q.2 (by omega)
theorem lowR.op11 {r : Nat} (op : List Nat) : lowR r (11 :: op) := fun q => q.1 rfl
/-- made alike by all that comes, up to a rank -/
def EQc (r : Nat) (ks' op' kc op : List Nat) : Prop := ∀ x, x ≤ r → clsF x ks' op' = clsF x kc op
theorem EQc.rf (r : Nat) (ks op : List Nat) : EQc r ks op ks op := fun _ _ => rfl
theorem EQc.le {r r' : Nat} {a b c d : List Nat} (h : EQc r a b c d) (hr : r' ≤ r) : EQc r' a b c d := fun x hx => h x (Nat.le_trans hx hr)
theorem EQc.wr {r r' d : Nat} {a b k op : List Nat} (h : EQc r a b k (d :: op)) (h11 : d ≠ 11) (h1 : r' ≤ r) (h2 : r' ≤ rkN d) : EQc r' a b ((30000 + d) :: k) op := fun x hx => (h x (Nat.le_trans hx h1)).trans (clsF_s ⟨h11, Nat.le_trans hx h2⟩)
theorem EQc.low {r r' : Nat} {a b k op : List Nat} (h : EQc r a b k op) (hr : r' ≤ r) (hl : lowR r' op) : clsF r' a b = (k, op) := (h r' hr).trans (hl.eq k)
abbrev zFL : Type := List (Bool × Nat × Nat)
/-- from where an operand is wanted: the machine of the reference goes as the descent -/
def SmP (S : zS2) (L lev : Nat) (E : Int32 → Prop) (X : zDR) (p : Nat) (kc op : List Nat) (fr : zFL) : Prop := match X with
  | .inl q => q ≤ L ∧ fltI (mch S L true p kc op fr) L = nI q
  | .inr s => p < s.1 ∧ s.1 ≤ L ∧ E (ltr S L s.1) ∧ ∃ ks' op', mch S L true p kc op fr = mch S L false s.1 ks' op' fr ∧ EQc lev ks' op' s.2 op
def PCl (S : zS2) (L lev : Nat) (low : List Nat → Prop) (E : Int32 → Prop) (P : Nat → List Nat → zDR) (p0 : Nat) : Prop := ∀ (p : Nat) (kc op : List Nat) (f : Bool × Nat × Nat) (fs : zFL), p0 ≤ p → p ≤ L → low op → SmP S L lev E (P p kc) p kc op (f :: fs)
/-- the same from behind an operand -/
def SmL (S : zS2) (L lev : Nat) (E : Int32 → Prop) (X : zDR) (p : Nat) (ks1 op1 op : List Nat) (fr : zFL) : Prop := match X with
  | .inl q => q ≤ L ∧ fltI (mch S L false p ks1 op1 fr) L = nI q
  | .inr s => p ≤ s.1 ∧ s.1 ≤ L ∧ E (ltr S L s.1) ∧ ∃ ks' op', mch S L false p ks1 op1 fr = mch S L false s.1 ks' op' fr ∧ EQc lev ks' op' s.2 op
theorem pr_loop {S : zS2} {L p0 : Nat} (hL : L ≤ 30) {P : Nat → List Nat → zDR} (hP : PCl S L 4 (fun _ => True) (fun _ => True) P p0) {op : List Nat} (hop : lowR 3 op) {f : Bool × Nat × Nat} {fs : zFL} : ∀ n p1 k1 ks1 op1, p0 ≤ p1 → p1 ≤ L → L < n + p1 → EQc 3 ks1 op1 k1 op → SmL S L 3 (fun a => a ≠ 42) (prL S L P n p1 k1) p1 ks1 op1 op (f :: fs) := by
  intro n
  induction n with
  | zero => intro p1 k1 ks1 op1 h0 h1 h2; omega
  | succ n ih =>
    intro p1 k1 ks1 op1 h0 h1 h2 he
    rw [prL]
    by_cases hs : ltr S L p1 = 42
    · rw [if_pos hs]
      have hlt := ltr_ne (S := S) (L := L) (p := p1) (by rw [hs]; decide)
      have hs' : S 68 p1 = 42 := (ltr_in hlt).symm.trans hs
      have hm : mch S L false p1 ks1 op1 (f :: fs) = mch S L true (p1 + 1) k1 (4 :: op) (f :: fs) := by
        rw [mch_r hL hlt (sf_op hs' (d := 4) (r := 3) (by decide) (by decide) (by decide)), he.low (Nat.le_refl _) hop]
      have hp := hP (p1 + 1) k1 (4 :: op) f fs (by omega) (by omega) trivial
      cases hX : P (p1 + 1) k1 with
      | inl q => rw [hX] at hp; exact ⟨hp.1, by rw [hm]; exact hp.2⟩
      | inr s =>
        obtain ⟨p2, k2⟩ := s
        rw [hX] at hp
        obtain ⟨a1, a2, -, ks2, op2, a3, a4⟩ := hp
        dsimp only at a1 a2 a3 a4
        have hi := ih p2 (30004 :: k2) ks2 op2 (by omega) a2 (by omega) (a4.wr (by decide) (by decide) (by decide))
        show SmL S L 3 _ (prL S L P n p2 (30004 :: k2)) p1 ks1 op1 op (f :: fs)
        cases hY : prL S L P n p2 (30004 :: k2) with
        | inl q => rw [hY] at hi; exact ⟨hi.1, by rw [hm, a3]; exact hi.2⟩
        | inr s =>
          rw [hY] at hi
          obtain ⟨b1, b2, b3, ks3, op3, b4, b5⟩ := hi
          exact ⟨by omega, b2, b3, ks3, op3, by rw [hm, a3]; exact b4, b5⟩
    · rw [if_neg hs]
      exact ⟨Nat.le_refl _, h1, hs, ks1, op1, rfl, he⟩
theorem pr_ok {S : zS2} {L p0 : Nat} (hL : L ≤ 30) {P : Nat → List Nat → zDR} (hP : PCl S L 4 (fun _ => True) (fun _ => True) P p0) : PCl S L 3 (lowR 3) (fun a => a ≠ 42) (prR S L P) p0 := by
  intro p kc op f fs h0 h1 hop
  have hp := hP p kc op f fs h0 h1 trivial
  unfold prR
  cases hX : P p kc with
  | inl q => rw [hX] at hp; exact hp
  | inr s =>
    obtain ⟨p1, k1⟩ := s
    rw [hX] at hp
    obtain ⟨a1, a2, -, ks2, op2, a3, a4⟩ := hp
    dsimp only at a1 a2 a3 a4
    have hi := pr_loop hL hP hop (f := f) (fs := fs) 30 p1 k1 ks2 op2 (by omega) a2 (by omega) (a4.le (by decide))
    show SmP S L 3 _ (prL S L P 30 p1 k1) p kc op (f :: fs)
    cases hY : prL S L P 30 p1 k1 with
    | inl q => rw [hY] at hi; exact ⟨hi.1, by rw [a3]; exact hi.2⟩
    | inr s =>
      rw [hY] at hi
      obtain ⟨b1, b2, b3, ks3, op3, b4, b5⟩ := hi
      exact ⟨by omega, b2, b3, ks3, op3, by rw [a3]; exact b4, b5⟩
def nOp (a : Int32) : Prop := a ≠ 42 ∧ a ≠ 43 ∧ a ≠ 45
theorem sm_one {S : zS2} {L p0 : Nat} (hL : L ≤ 30) {P : Nat → List Nat → zDR} (hP : PCl S L 3 (lowR 3) (fun a => a ≠ 42) P p0) {op : List Nat} (hop : lowR 2 op) {f : Bool × Nat × Nat} {fs : zFL} {a : Int32} {d n p1 : Nat} {k1 ks1 op1 : List Nat} (ha : a ≠ 0) (hd : deedN a = nI d) (h5 : 1 ≤ d ∧ d < 5) (hr : rkN d = 2) (h11 : d ≠ 11)
    (ih : ∀ p1 k1 ks1 op1, p0 ≤ p1 → p1 ≤ L → L < n + p1 → ltr S L p1 ≠ 42 → EQc 2 ks1 op1 k1 op → SmL S L 2 nOp (smL S L P n p1 k1) p1 ks1 op1 op (f :: fs))
    (h0 : p0 ≤ p1) (h1 : p1 ≤ L) (h2 : L < n + 1 + p1) (he : EQc 2 ks1 op1 k1 op) (hs : ltr S L p1 = a) : SmL S L 2 nOp (bdR (P (p1 + 1) k1) (fun q k => smL S L P n q ((30000 + d) :: k))) p1 ks1 op1 op (f :: fs) := by
  have hlt := ltr_ne (S := S) (L := L) (p := p1) (by rw [hs]; exact ha)
  have hs' : S 68 p1 = a := (ltr_in hlt).symm.trans hs
  have hm : mch S L false p1 ks1 op1 (f :: fs) = mch S L true (p1 + 1) k1 (d :: op) (f :: fs) := by
    rw [mch_r hL hlt (sf_op hs' (d := d) (r := 2) hd h5 hr), he.low (Nat.le_refl _) hop]
  have hp := hP (p1 + 1) k1 (d :: op) f fs (by omega) (by omega) (lowR.op op (by omega))
  cases hX : P (p1 + 1) k1 with
  | inl q => rw [hX] at hp; exact ⟨hp.1, by rw [hm]; exact hp.2⟩
  | inr s =>
    obtain ⟨p2, k2⟩ := s
    rw [hX] at hp
    obtain ⟨a1, a2, a5, ks2, op2, a3, a4⟩ := hp
    dsimp only at a1 a2 a3 a4 a5
    have hi := ih p2 ((30000 + d) :: k2) ks2 op2 (by omega) a2 (by omega) a5 (a4.wr h11 (by decide) (by omega))
    show SmL S L 2 _ (smL S L P n p2 ((30000 + d) :: k2)) p1 ks1 op1 op (f :: fs)
    cases hY : smL S L P n p2 ((30000 + d) :: k2) with
    | inl q => rw [hY] at hi; exact ⟨hi.1, by rw [hm, a3]; exact hi.2⟩
    | inr s =>
      rw [hY] at hi
      obtain ⟨b1, b2, b3, ks3, op3, b4, b5⟩ := hi
      exact ⟨by omega, b2, b3, ks3, op3, by rw [hm, a3]; exact b4, b5⟩
theorem sm_loop {S : zS2} {L p0 : Nat} (hL : L ≤ 30) {P : Nat → List Nat → zDR} (hP : PCl S L 3 (lowR 3) (fun a => a ≠ 42) P p0) {op : List Nat} (hop : lowR 2 op) {f : Bool × Nat × Nat} {fs : zFL} : ∀ n p1 k1 ks1 op1, p0 ≤ p1 → p1 ≤ L → L < n + p1 → ltr S L p1 ≠ 42 → EQc 2 ks1 op1 k1 op → SmL S L 2 nOp (smL S L P n p1 k1) p1 ks1 op1 op (f :: fs) := by
  intro n
  induction n with
  | zero => intro p1 k1 ks1 op1 h0 h1 h2; omega
  | succ n ih =>
    intro p1 k1 ks1 op1 h0 h1 h2 h42 he
    rw [smL]
    by_cases hs : ltr S L p1 = 43
    · rw [if_pos hs]
      exact sm_one hL hP hop (d := 2) (by decide) (by decide) (by decide) (by decide) (by decide) ih h0 h1 h2 he hs
    · rw [if_neg hs]
      by_cases hs2 : ltr S L p1 = 45
      · rw [if_pos hs2]
        exact sm_one hL hP hop (d := 3) (by decide) (by decide) (by decide) (by decide) (by decide) ih h0 h1 h2 he hs2
      · rw [if_neg hs2]
        exact ⟨Nat.le_refl _, h1, ⟨h42, hs, hs2⟩, ks1, op1, rfl, he⟩
theorem sm_ok {S : zS2} {L p0 : Nat} (hL : L ≤ 30) {P : Nat → List Nat → zDR} (hP : PCl S L 3 (lowR 3) (fun a => a ≠ 42) P p0) : PCl S L 2 (lowR 2) nOp (smR S L P) p0 := by
  intro p kc op f fs h0 h1 hop
  have hp := hP p kc op f fs h0 h1 (hop.le (by decide))
  unfold smR
  cases hX : P p kc with
  | inl q => rw [hX] at hp; exact hp
  | inr s =>
    obtain ⟨p1, k1⟩ := s
    rw [hX] at hp
    obtain ⟨a1, a2, a5, ks2, op2, a3, a4⟩ := hp
    dsimp only at a1 a2 a3 a4 a5
    have hi := sm_loop hL hP hop (f := f) (fs := fs) 30 p1 k1 ks2 op2 (by omega) a2 (by omega) a5 (a4.le (by decide))
    show SmP S L 2 _ (smL S L P 30 p1 k1) p kc op (f :: fs)
    cases hY : smL S L P 30 p1 k1 with
    | inl q => rw [hY] at hi; exact ⟨hi.1, by rw [a3]; exact hi.2⟩
    | inr s =>
      rw [hY] at hi
      obtain ⟨b1, b2, b3, ks3, op3, b4, b5⟩ := hi
      exact ⟨by omega, b2, b3, ks3, op3, by rw [a3]; exact b4, b5⟩

