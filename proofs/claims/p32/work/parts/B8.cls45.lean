/-! ===== tokens: what they read; a made Formula is the step's ===== -/
def zCr (S : zS2) (n : Nat) : List Nat → Prop
  | [] => True
  | x :: s => S 103 (30 * n + s.length) = nI x ∧ zCr S n s
def mkp (lo hi : Int32) (x : Nat) : Int32 := if lo ≤ nI x ∧ nI x ≤ hi then (1 : Int32) <<< ((nI x - lo) &&& 31) else 0
theorem tk_c : ∀ q, q < 12 → (∀ i, i < 12 → bt (rdB (20000 + q)) i = bt (mkp 20000 20999 (20000 + q)) i) ∧ (∀ i, i < 5 → bt (rdB (20000 + q)) (12 + i) = bt (mkp 21000 21999 (20000 + q)) i) ∧ (∀ i, i < 5 → bt (rdB (20000 + q)) (17 + i) = bt (mkp 22000 29999 (20000 + q)) i) ∧ ∀ i, i < 10 → bt (rdB (20000 + q)) (22 + i) = false := by decide +kernel
theorem tk_r : ∀ q, q < 5 → (∀ i, i < 12 → bt (rdB (21000 + q)) i = bt (mkp 20000 20999 (21000 + q)) i) ∧ (∀ i, i < 5 → bt (rdB (21000 + q)) (12 + i) = bt (mkp 21000 21999 (21000 + q)) i) ∧ (∀ i, i < 5 → bt (rdB (21000 + q)) (17 + i) = bt (mkp 22000 29999 (21000 + q)) i) ∧ ∀ i, i < 10 → bt (rdB (21000 + q)) (22 + i) = false := by decide +kernel
theorem tk_l : ∀ q, q < 5 → (∀ i, i < 12 → bt (rdB (22000 + q)) i = bt (mkp 20000 20999 (22000 + q)) i) ∧ (∀ i, i < 5 → bt (rdB (22000 + q)) (12 + i) = bt (mkp 21000 21999 (22000 + q)) i) ∧ (∀ i, i < 5 → bt (rdB (22000 + q)) (17 + i) = bt (mkp 22000 29999 (22000 + q)) i) ∧ ∀ i, i < 10 → bt (rdB (22000 + q)) (22 + i) = false := by decide +kernel
theorem tk_d : ∀ q, q < 11 → (∀ i, i < 12 → bt (rdB (30000 + q)) i = bt (mkp 20000 20999 (30000 + q)) i) ∧ (∀ i, i < 5 → bt (rdB (30000 + q)) (12 + i) = bt (mkp 21000 21999 (30000 + q)) i) ∧ (∀ i, i < 5 → bt (rdB (30000 + q)) (17 + i) = bt (mkp 22000 29999 (30000 + q)) i) ∧ ∀ i, i < 10 → bt (rdB (30000 + q)) (22 + i) = false := by decide +kernel
theorem tk_b {x : Nat} (h : tokR x) : (∀ i, i < 12 → bt (rdB x) i = bt (mkp 20000 20999 x) i) ∧ (∀ i, i < 5 → bt (rdB x) (12 + i) = bt (mkp 21000 21999 x) i) ∧ (∀ i, i < 5 → bt (rdB x) (17 + i) = bt (mkp 22000 29999 x) i) ∧ ∀ i, i < 10 → bt (rdB x) (22 + i) = false := by
  rcases h with h | h | h | h | h
  · have e : rdB x = 0 := by unfold rdB; rw [if_pos (by omega)]
    have m : ∀ lo hi : Nat, 20000 ≤ lo → lo < 100000 → mkp (nI lo) (nI hi) x = 0 := fun lo hi h1 h2 => if_neg (fun q => absurd q.1 (Int32.not_le.mpr (nI_lt (a := x) (b := lo) (by omega) (by omega))))
    rw [e, show mkp 20000 20999 x = 0 from m 20000 20999 (by decide) (by decide), show mkp 21000 21999 x = 0 from m 21000 21999 (by decide) (by decide), show mkp 22000 29999 x = 0 from m 22000 29999 (by decide) (by decide)]
    exact ⟨fun i _ => rfl, fun i _ => by rw [b_0, b_0], fun i _ => by rw [b_0, b_0], fun i _ => b_0 _⟩
  · rw [show x = 20000 + (x - 20000) by omega]; exact tk_c _ (by omega)
  · rw [show x = 21000 + (x - 21000) by omega]; exact tk_r _ (by omega)
  · rw [show x = 22000 + (x - 22000) by omega]; exact tk_l _ (by omega)
  · rw [show x = 30000 + (x - 30000) by omega]; exact tk_d _ (by omega)
theorem mkP_s (S : zS2) (n : Nat) (lo hi : Int32) {m x : Nat} (h : S 103 (30 * n + m) = nI x) : maskP S n lo hi (m + 1) = maskP S n lo hi m ||| mkp lo hi x := by
  rw [maskP, h]; rfl
theorem pkm_b {S : zS2} {n : Nat} : ∀ s : List Nat, (∀ x, x ∈ s → tokR x) → zCr S n s → (∀ i, i < 12 → bt (pkm s) i = bt (maskP S n 20000 20999 s.length) i) ∧ (∀ i, i < 5 → bt (pkm s) (12 + i) = bt (maskP S n 21000 21999 s.length) i) ∧ (∀ i, i < 5 → bt (pkm s) (17 + i) = bt (maskP S n 22000 29999 s.length) i) ∧ ∀ i, i < 10 → bt (pkm s) (22 + i) = false := by
  intro s
  induction s with
  | nil => exact fun _ _ => ⟨fun i _ => rfl, fun i _ => by show bt 0 _ = bt 0 _; rw [b_0, b_0], fun i _ => by show bt 0 _ = bt 0 _; rw [b_0, b_0], fun i _ => b_0 _⟩
  | cons x s ih =>
    intro h1 h2
    obtain ⟨i1, i2, i3, i4⟩ := ih (fun y hy => h1 y (List.mem_cons_of_mem _ hy)) h2.2
    obtain ⟨t1, t2, t3, t4⟩ := tk_b (h1 x (List.mem_cons_self ..))
    have e : ∀ lo hi, maskP S n lo hi (x :: s).length = maskP S n lo hi s.length ||| mkp lo hi x := fun lo hi => mkP_s S n lo hi h2.1
    rw [e, e, e, pkm]
    refine ⟨fun i hi => ?_, fun i hi => ?_, fun i hi => ?_, fun i hi => ?_⟩
    · rw [b_or, b_or, i1 i hi, t1 i hi]
    · rw [b_or, b_or, i2 i hi, t2 i hi]
    · rw [b_or, b_or, i3 i hi, t3 i hi]
    · rw [b_or, i4 i hi, t4 i hi]; rfl
theorem zCo_at {σ : zS2} {S : zS2} {n : Nat} : ∀ s : List Nat, (∀ x, x ∈ s → tokR x) → zCo σ s → zCr S n s → ∀ k, k < s.length → σ 4 k = enc (stw S n k) := by
  intro s
  induction s with
  | nil => exact fun _ _ _ k hk => absurd hk (Nat.not_lt_zero k)
  | cons x s ih =>
    intro h1 h2 h3 k hk
    by_cases q : k < s.length
    · exact ih (fun y hy => h1 y (List.mem_cons_of_mem _ hy)) h2.2 h3.2 k q
    · have e : k = s.length := by simp only [List.length_cons] at hk; omega
      have hx : x < 2147483648 := by
        have := h1 x (List.mem_cons_self ..)
        unfold tokR at this
        omega
      subst e
      unfold stw
      rw [h2.1, h3.1, nI_clamp hx]
theorem okL_t {s : List Nat} (h : okL s) : ∀ x, x ∈ s → tokR x := by
  induction s with
  | nil => exact fun x hx => absurd hx (by simp)
  | cons y s ih =>
    intro x hx
    rcases List.mem_cons.mp hx with rfl | hx
    · exact h.1
    · exact ih h.2.2 x hx
/-- a row of the reference's tokens, kept as the step's -/
theorem zOp_cr {S : zS2} {n len : Nat} : ∀ s : List Nat, s.length ≤ len → zOp S 69 s → zCr (fmP S n len len) n s := by
  intro s
  induction s with
  | nil => exact fun _ _ => trivial
  | cons x s ih =>
    intro hl h
    simp only [List.length_cons] at hl
    refine ⟨?_, ih (by omega) h.2⟩
    have q : 30 * n ≤ 30 * n + s.length ∧ 30 * n + s.length < 30 * n + len := ⟨by omega, by omega⟩
    simp only [fmP, true_and, q, and_self, if_true]
    rw [show 30 * n + s.length - 30 * n = s.length by omega]
    exact h.1
theorem belF_bits (S : zS2) {m m' : Int32} (h : ∀ i, i < 12 → bt m i = bt m' i) {c : Nat} (hc : c < 12) : bt (belF S false m) c = bt (belF S false m') c := by
  rw [Bool.eq_iff_iff]
  exact ⟨belF_in S false (belF_clos S false m') (fun i hi hb => belF_up S false m' (by rw [← h i hi]; exact hb)) c hc, belF_in S false (belF_clos S false m) (fun i hi hb => belF_up S false m (by rw [h i hi]; exact hb)) c hc⟩
/-- the made Formula -/
theorem zMk.fo {μ : zMem} {σ : zS2} {π : zP2} {g : zG2} {rd : Int32} {L p : Nat} {ks : List Nat} {b n : Nat} {S : zS2} (hN : 70 ≤ zN μ) (hP : zPp L p ks b σ) (hk : ∀ x, x ∈ ks → tokR x) (hr : zCr S n ks) (hs : stN S n = ks.length) {σ' : zS2} {π' : zP2}
    (e1 : σ' (zN μ) 1 = pkm ks) (e2 : π' (zN μ) 0 = some (zN μ + 1)) (e3 : ∀ i, i < ks.length → σ' (zN μ + 1) i = σ 4 i) : zFo (zal (zal μ (1 + 8) 0) 0 ks.length) σ' π' (zN μ) (stw S n) (stN S n) (maskP S n 20000 20999 (stN S n)) (maskP S n 21000 21999 (stN S n)) (maskP S n 22000 29999 (stN S n)) := by
  obtain ⟨p1, p2, p3, p4⟩ := pkm_b ks hk hr
  rw [hs]
  refine ⟨by unfold Im; omega, show zN μ < zN μ + 1 + 1 by omega, ?_, fun i hi => by rw [e1]; exact p1 i hi, fun i hi => by rw [e1]; exact p2 i hi, fun i hi => by rw [e1]; exact p3 i hi, fun i hi => ?_, zN μ + 1, e2, by unfold Im; omega, show zN μ + 1 < zN μ + 1 + 1 by omega, if_pos rfl, if_pos rfl, fun k hk' => ?_⟩
  · exact (if_neg (show ¬ zN μ = zN μ + 1 by omega)).trans (if_pos rfl)
  · rw [e1]
    by_cases q : i < 32
    · have := p4 (i - 22) (by omega)
      rw [show 22 + (i - 22) = i by omega] at this
      exact this
    · exact b_big (by omega)
  · rw [e3 k hk']
    exact zCo_at ks hk hP.2.2.2.2.1 hr k hk'

