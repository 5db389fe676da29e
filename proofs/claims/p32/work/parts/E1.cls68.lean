/-! ===== as many tokens as letters ===== -/
theorem stF_iv {σ : zS2} {L p : Nat} {w w' : Bool} {p' : Nat} {ks op ks' op' : List Nat} {fr fr' : List (Bool × Nat × Nat)} (hp : p < L) (h : IV p ks op fr) (hs : stF σ L w p ks op fr = .inr (w', p', ks', op', fr')) : IV p' ks' op' fr' ∧ p' ≤ L := by
  cases w with
  | true =>
    unfold stF at hs
    split at hs
    · rename_i hx
      injection hs with hs; cases hs
      exact ⟨IV_tok h _ (by have : 0 < ndF σ L p 4 := ndF_pos (f := 3) hp hx.2; omega), ndF_L σ L 4 p (by omega)⟩
    split at hs
    · split at hs
      · cases hs
      · rename_i hb
        injection hs with hs; cases hs
        have := nmP_L hp (by simpa using hb)
        exact ⟨IV_tok h _ this.1, this.2⟩
    split at hs
    · injection hs with hs; cases hs
      exact ⟨IV_neg h, by omega⟩
    split at hs
    · rename_i hx
      by_cases hq : (if σ 68 p = 40 then p else p + 1) = L ∨ σ 68 (if σ 68 p = 40 then p else p + 1) ≠ 40
      · rw [if_pos hq] at hs; cases hs
      · rw [if_neg hq] at hs
        injection hs with hs; cases hs
        have hL : ¬ (if σ 68 p = 40 then p else p + 1) = L := fun q => hq (Or.inl q)
        have tx_ : ∀ n, n < 128 → σ 68 p = nI n → txN σ p = n := fun n hn e => by unfold txN; rw [e]; exact nI_clamp (by omega)
        by_cases q40 : σ 68 p = 40
        · have t := tx_ 40 (by decide) q40
          rw [if_pos q40] at hL ⊢
          rw [if_pos q40]
          exact ⟨IV_open h (by rw [t]; decide) (by decide) (Or.inl ⟨t, rfl⟩), by omega⟩
        · rw [if_neg q40] at hL ⊢
          rw [if_neg q40]
          have t : txN σ p < 128 := by
            rcases hx.2 with q | q
            · exact absurd q q40
            · simp only [funB, Bool.or_eq_true, decide_eq_true_eq] at q
              rcases q with (q | q) | q
              · rw [tx_ 109 (by decide) q]; decide
              · rw [tx_ 110 (by decide) q]; decide
              · rw [tx_ 105 (by decide) q]; decide
          exact ⟨IV_open h t (by split <;> decide) (Or.inr rfl), by omega⟩
    · split at hs
      · cases hs
      · rename_i q; exact absurd rfl q
  | false =>
    cases fr with
    | nil => exact absurd h.2.1 (by simp)
    | cons f fs =>
      rw [stF_false] at hs
      split at hs
      · rename_i hd
        split at hs
        · cases hs
        · injection hs with hs; cases hs
          obtain ⟨d, d1, d2, d3⟩ := deedN_nI hd
          exact ⟨IV_deed h (by rw [d3, nI_clamp (by omega)]; omega) _, by omega⟩
      split at hs
      · injection hs with hs; cases hs
        exact ⟨IV_comma h _, by omega⟩
      split at hs
      · rename_i hx
        injection hs with hs; cases hs
        obtain ⟨os, e1, e2, -⟩ := IV_shut h hx.2.1 (30000 + (if f.2.1 = 109 then 8 else if f.2.1 = 110 then 9 else 10))
        exact ⟨by rw [e1]; exact e2, by omega⟩
      · cases hs
theorem rnF_iv {σ : zS2} {L : Nat} (f : Nat) : ∀ {w : Bool} {p : Nat} {ks op : List Nat} {fr : List (Bool × Nat × Nat)} {s : zPS}, p ≤ L → IV p ks op fr → rnF σ L f w p ks op fr = .inr s → s.2.1 ≤ L ∧ IV s.2.1 s.2.2.1 s.2.2.2.1 s.2.2.2.2 := by
  induction f with
  | zero => intro w p ks op fr s hp h e; rw [rnF] at e; injection e with e; subst e; exact ⟨hp, h⟩
  | succ f ih =>
    intro w p ks op fr s hp h e
    by_cases q : p < L
    · cases e2 : stF σ L w p ks op fr with
      | inl r => rw [rnF_l q e2] at e; cases e
      | inr t =>
        obtain ⟨w', p', ks', op', fr'⟩ := t
        rw [rnF_r q e2] at e
        obtain ⟨a1, a2⟩ := stF_iv q h e2
        exact ih a2 a1 e
    · rw [rnF_e q] at e; injection e with e; subst e; exact ⟨hp, h⟩
theorem rdK_len (σ : zS2) (L : Nat) : (rdK (rdF σ L)).1.length ≤ L := by
  cases e : rdF σ L with
  | inl q => exact Nat.zero_le _
  | inr s =>
    have h0 : IV 0 [] [] [(false, 40, 1)] := ⟨by simp [ng, fnc], by simp [g11], by simp, fun d hd => absurd hd (by simp), fun f hf => by rw [List.mem_singleton.mp hf]; decide⟩
    obtain ⟨h1, h2⟩ := rnF_iv (σ := σ) (L := L) 31 (Nat.zero_le L) h0 e
    have h3 := (clsF_ok 0 s.2.2.2.1 s.2.2.1).1
    have h4 := h2.1
    show (clsF 0 s.2.2.1 s.2.2.2.1).1.length ≤ L
    omega
/-- tokens, laid into a row -/
def zRo : List Nat → Nat → Int32
  | [], _ => 0
  | x :: s, j => if j = s.length then nI x else zRo s j
def zR9 (σ : zS2) (s : List Nat) : zS2 := fun b j => if b = 69 then zRo s j else σ b j
theorem zOp_ro (σ : zS2) : ∀ s : List Nat, zOp (zR9 σ s) 69 s := by
  have key : ∀ (s t : List Nat), (∀ j, j < s.length → zRo t j = zRo s j) → zOp (zR9 σ t) 69 s := by
    intro s
    induction s with
    | nil => exact fun _ _ => trivial
    | cons x s ih =>
      intro t h
      refine ⟨?_, ih t (fun j hj => ?_)⟩
      · show (if 69 = 69 then zRo t s.length else _) = _
        rw [if_pos rfl, h s.length (by simp)]
        exact if_pos rfl
      · rw [h j (by simp only [List.length_cons]; omega)]
        exact if_neg (by omega)
  exact fun s => key s s (fun _ _ => rfl)
theorem zOp_eq {S S' : zS2} {a : Nat} : ∀ s : List Nat, zOp S a s → zOp S' a s → ∀ j, j < s.length → S' a j = S a j := by
  intro s
  induction s with
  | nil => exact fun _ _ j hj => absurd hj (by simp)
  | cons x s ih =>
    intro h h' j hj
    by_cases q : j = s.length
    · rw [q, h.1, h'.1]
    · exact ih h.2 h'.2 j (by simp only [List.length_cons] at hj; omega)
theorem fmP_c (S : zS2) (n len : Nat) {k : Nat} (hk : k < len) : fmP S n len len 103 (30 * n + k) = S 69 k := by
  have q : 30 * n ≤ 30 * n + k ∧ 30 * n + k < 30 * n + len := ⟨by omega, by omega⟩
  simp only [fmP, true_and, q, and_self, if_true]
  rw [show 30 * n + k - 30 * n = k by omega]
theorem wh_pk {S : zS2} {s : List Nat} (hz : zOp S 69 s) (ht : ∀ x, x ∈ s → tokR x) : ∀ i, i < 12 → bt (pkm s) i = bt (whP S s.length) i := by
  have h1 := (pkm_b (n := 0) s ht (zOp_cr s (Nat.le_refl _) hz)).1
  have h2 : ∀ k, k ≤ s.length → maskP (fmP S 0 s.length s.length) 0 20000 20999 k = whP S k := by
    intro k
    induction k with
    | zero => exact fun _ => rfl
    | succ k ih => exact fun hk => by simp only [maskP, whP]; rw [ih (by omega), fmP_c S 0 s.length (by omega)]
  intro i hi
  rw [h1 i hi, h2 _ (Nat.le_refl _)]
theorem KS_fm {n c : Nat} {X : zS2} {ks : List Nat} (hV : CV n X) (hc : c < 12) (hz : zOp X 69 ks) (h30 : ks.length ≤ 30) (ok : okL ks) (od : dL ks = 1) (hh : bt (belF X false (whP X ks.length)) c = false) : KS n (fmP X n ks.length ks.length) 0 (nI c) 0 0 := by
  obtain ⟨w1, w2⟩ := zOp_w hz (tok_31 ok) ok
  have hV' : CV n (fmP X n ks.length ks.length) := hV.q (fmP_q X n _ _) (fmP_ne X n _ _ (by decide) _)
  refine hV'.ks (kp_formula hV.1 hc ⟨h30, w1.trans od, fun k hk => (w2 k hk).1⟩ (fun k hk => (w2 k hk).2) hh) ?_ (fun q => absurd ((kp_at _ n 0 (nI c) 0 0).1.symm.trans q) (by decide))
  have k := kp_at (fmP X n ks.length ks.length) n 0 (nI c) 0 0
  unfold stX
  rw [k.1, k.2.2.1, k.2.2.2]
  exact ⟨fun q => absurd q (by decide), fun q => absurd q (by decide), fun q => absurd q (by decide), fun q => absurd q (by decide), fun q => absurd q (by decide)⟩


