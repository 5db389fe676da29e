/-! ===== memories: shape μ, numbers σ, references π, longs g ===== -/
def zA4 (μ : zMem) (σ : Nat → Nat → Int32) (π : Nat → Nat → Option Nat) (g : Nat → Nat → Int64) : zMem := (zN μ, zK μ, zL μ, σ, π, g)
def zu (σ : Nat → Nat → Int32) (a i : Nat) (v : Int32) : Nat → Nat → Int32 := fun b j => if b = a ∧ j = i then v else σ b j
def zup (π : Nat → Nat → Option Nat) (a i : Nat) (v : Option Nat) : Nat → Nat → Option Nat := fun b j => if b = a ∧ j = i then v else π b j
def zug (g : Nat → Nat → Int64) (a i : Nat) (v : Int64) : Nat → Nat → Int64 := fun b j => if b = a ∧ j = i then v else g b j
theorem zA4_self (μ : zMem) : zA4 μ (zI μ) (zP μ) (zG μ) = μ := rfl
def znl : Option Value → Bool := fun o => match o with
  | some (.long _) => false
  | some (.double _) => false
  | _ => true
theorem zst1_nl {L : List (Option Value)} {k : Nat} {x : Option Value} {v : Value} (h : L[k]? = some x) (hx : znl x = true) : zst1 L (k + 1) v = L.set (k + 1) (some v) := by
  unfold zst1
  dsimp only
  rw [h]
  cases x with
  | none => rfl
  | some w => cases w <;> first | rfl | cases hx
theorem nI_inc (n : Nat) : nI n + Int32.ofInt 1 = nI (n + 1) := nI_1 n
section ZRR
variable {l : Launch} {Z : zZ} {τ : zT} {M : zM} {kk mc ms : Nat} {F : State → Prop} {pc : Nat} {L : List (Option Value)} {st : List Value} {c k : Nat} {μ : zMem} {σ : Nat → Nat → Int32} {π : Nat → Nat → Option Nat} {g : Nat → Nat → Int64}
theorem R_getI (hT : zCx τ M kk mc ms) {a ci kf idx : Nat} (hf : zFd M.1.cls idx ci kf) (hr : zrt (zfty ci kf) = false) (hd : decode M.2.1 pc = .ok (.getfield idx, 3)) (hk : zK μ a = ci + 8)
    (h : zJ τ F (pc + 3) L (.int (σ a kf) :: st) (zA4 μ σ π g) c k) : zJ τ F pc L (.ref a :: st) (zA4 μ σ π g) c k := J_getI hT hf hr hd hk h
theorem R_getP (hT : zCx τ M kk mc ms) {a ci kf idx r : Nat} (hf : zFd M.1.cls idx ci kf) (hr : zrt (zfty ci kf) = true) (hd : decode M.2.1 pc = .ok (.getfield idx, 3)) (hk : zK μ a = ci + 8) (hp : π a kf = some r)
    (h : zJ τ F (pc + 3) L (.ref r :: st) (zA4 μ σ π g) c k) : zJ τ F pc L (.ref a :: st) (zA4 μ σ π g) c k := J_getP hT hf hr hd hk hp h
theorem R_getN (hT : zCx τ M kk mc ms) {a ci kf idx : Nat} (hf : zFd M.1.cls idx ci kf) (hr : zrt (zfty ci kf) = true) (hd : decode M.2.1 pc = .ok (.getfield idx, 3)) (hk : zK μ a = ci + 8) (hp : π a kf = none)
    (h : zJ τ F (pc + 3) L (.null :: st) (zA4 μ σ π g) c k) : zJ τ F pc L (.ref a :: st) (zA4 μ σ π g) c k := J_getN hT hf hr hd hk hp h
theorem R_putI (hT : zCx τ M kk mc ms) {a ci kf idx : Nat} {v : Int32} (hf : zFd M.1.cls idx ci kf) (hfin : (zTX ci kf).2.2.2 = false) (hr : zfty ci kf = .int) (hd : decode M.2.1 pc = .ok (.putfield idx, 3)) (hk : zK μ a = ci + 8)
    (h : zJ τ F (pc + 3) L st (zA4 μ (zu σ a kf v) π g) c k) : zJ τ F pc L (.int v :: .ref a :: st) (zA4 μ σ π g) c k := J_putI hT hf (Or.inl hfin) hr hd hk h
theorem R_putZ (hT : zCx τ M kk mc ms) {a ci kf idx : Nat} {v : Int32} (hf : zFd M.1.cls idx ci kf) (hfin : (zTX ci kf).2.2.2 = false) (hr : zfty ci kf = .boolean) (hz : v = 0 ∨ v = 1) (hd : decode M.2.1 pc = .ok (.putfield idx, 3)) (hk : zK μ a = ci + 8)
    (h : zJ τ F (pc + 3) L st (zA4 μ (zu σ a kf v) π g) c k) : zJ τ F pc L (.int v :: .ref a :: st) (zA4 μ σ π g) c k := J_putZ hT hf (Or.inl hfin) hr hz hd hk h
theorem R_putP (hT : zCx τ M kk mc ms) {a ci kf idx r : Nat} (hf : zFd M.1.cls idx ci kf) (hfin : (zTX ci kf).2.2.2 = false) (hr : zrt (zfty ci kf) = true) (hd : decode M.2.1 pc = .ok (.putfield idx, 3)) (hk : zK μ a = ci + 8)
    (h : zJ τ F (pc + 3) L st (zA4 μ σ (zup π a kf (some r)) g) c k) : zJ τ F pc L (.ref r :: .ref a :: st) (zA4 μ σ π g) c k := J_putP hT hf (Or.inl hfin) hr hd hk h
theorem R_iald (hT : zCx τ M kk mc ms) {a j n : Nat} {i : Int32} (hd : decode M.2.1 pc = .ok (.iaload, 1)) (hk : zK μ a = 0) (hn : zL μ a = n) (hi : zix i j n) (h : zJ τ F (pc + 1) L (.int (σ a j) :: st) (zA4 μ σ π g) c k) : zJ τ F pc L (.int i :: .ref a :: st) (zA4 μ σ π g) c k := J_iald (μ := zA4 μ σ π g) hT hd hk (hn ▸ hi) h
theorem R_cald (hT : zCx τ M kk mc ms) {a j n : Nat} {i : Int32} (hd : decode M.2.1 pc = .ok (.caload, 1)) (hk : zK μ a = 2) (hn : zL μ a = n) (hi : zix i j n) (h : zJ τ F (pc + 1) L (.int (σ a j) :: st) (zA4 μ σ π g) c k) : zJ τ F pc L (.int i :: .ref a :: st) (zA4 μ σ π g) c k := J_cald (μ := zA4 μ σ π g) hT hd hk (hn ▸ hi) h
theorem R_aald (hT : zCx τ M kk mc ms) {a j n kd : Nat} {i : Int32} {v : Value} (hd : decode M.2.1 pc = .ok (.aaload, 1)) (hk : zK μ a = kd) (h38 : 3 < kd ∧ kd < 8) (hn : zL μ a = n) (hi : zix i j n) (hv : va_rf (π a j) = v) (h : zJ τ F (pc + 1) L (v :: st) (zA4 μ σ π g) c k) : zJ τ F pc L (.int i :: .ref a :: st) (zA4 μ σ π g) c k := J_aald (μ := zA4 μ σ π g) hT hd hk h38.1 h38.2 (hn ▸ hi) hv h
theorem R_aald1 (hT : zCx τ M kk mc ms) {a j n kd r : Nat} {i : Int32} (hd : decode M.2.1 pc = .ok (.aaload, 1)) (hk : zK μ a = kd) (h38 : 3 < kd ∧ kd < 8) (hn : zL μ a = n) (hi : zix i j n) (hv : π a j = some r) (h : zJ τ F (pc + 1) L (.ref r :: st) (zA4 μ σ π g) c k) : zJ τ F pc L (.int i :: .ref a :: st) (zA4 μ σ π g) c k := R_aald hT hd hk h38 hn hi (by rw [hv]; rfl) h
theorem R_alen (hT : zCx τ M kk mc ms) {a n : Nat} (hd : decode M.2.1 pc = .ok (.arraylength, 1)) (hk : zK μ a < 8) (hn : zL μ a = n) (h : zJ τ F (pc + 1) L (.int (nI n) :: st) (zA4 μ σ π g) c k) : zJ τ F pc L (.ref a :: st) (zA4 μ σ π g) c k := J_alen (μ := zA4 μ σ π g) hT hd hk (by rw [← hn]; rfl) h
theorem R_iast (hT : zCx τ M kk mc ms) {a j n : Nat} {i x : Int32} (hd : decode M.2.1 pc = .ok (.iastore, 1)) (hk : zK μ a = 0) (hn : zL μ a = n) (hi : zix i j n) (h : zJ τ F (pc + 1) L st (zA4 μ (zu σ a j x) π g) c k) : zJ τ F pc L (.int x :: .int i :: .ref a :: st) (zA4 μ σ π g) c k := J_iast (μ := zA4 μ σ π g) hT hd hk (hn ▸ hi) h
theorem R_cast (hT : zCx τ M kk mc ms) {a j n : Nat} {i x : Int32} (hd : decode M.2.1 pc = .ok (.castore, 1)) (hk : zK μ a = 2) (hn : zL μ a = n) (hi : zix i j n) (hx : vp_nar .char x = x) (h : zJ τ F (pc + 1) L st (zA4 μ (zu σ a j x) π g) c k) : zJ τ F pc L (.int x :: .int i :: .ref a :: st) (zA4 μ σ π g) c k := J_cast (μ := zA4 μ σ π g) hT hd hk (hn ▸ hi) hx h
theorem R_aast (hT : zCx τ M kk mc ms) {a j kd r n : Nat} {i : Int32} (hd : decode M.2.1 pc = .ok (.aastore, 1)) (hk : zK μ a = kd) (h38 : 3 < kd ∧ kd < 8) (hr : zK μ r = zqc kd + 8) (hn : zL μ a = n) (hi : zix i j n) (h : zJ τ F (pc + 1) L st (zA4 μ σ (zup π a j (some r)) g) c k) : zJ τ F pc L (.ref r :: .int i :: .ref a :: st) (zA4 μ σ π g) c k := J_aast (μ := zA4 μ σ π g) hT hd hk h38.1 h38.2 hr (hn ▸ hi) h
/-- calls whose contract says the answer and the world, nothing made -/
theorem R_callS1 (hY : zCy l Z τ M kk mc ms) {m : zM} {n k' idx : Nat} {as stk : List Value} {v : Value} {μ0 μ1 : zMem} (hd : decode M.2.1 pc = .ok (.invokestatic idx, 3)) (hm : zMf m n) (hsta : Cond.static m.1 ∈ ztb) (hlink : Cond.methodLink M.1.cls idx m.1 ∈ ztb ∨ ∃ host, Cond.methodLinkNest M.1.cls idx m.1 host ∈ lw_tbl)
    (ct : zCt l Z m k' 0 0 as μ0 (fun r μ' => r = some v ∧ μ' = μ1)) (hn : as.length = n) (hkk : k' < kk) (hs : stk = as.reverse ++ st) (hL : L.length = M.2.2.1) (h8 : (st.map fun v => v.category).sum ≤ 8) (hc : c ≤ mc) (hk : k ≤ ms)
    (h : zJ τ F (pc + 3) L (v :: st) μ1 c k) : zJ τ F pc L stk μ0 c k :=
  J_callS hY hd hm hsta hlink ct hn hkk hs hL h8 hc hk (fun r μ' q => by obtain ⟨rfl, rfl⟩ := q; exact h)
theorem R_callS0 (hY : zCy l Z τ M kk mc ms) {m : zM} {n k' idx : Nat} {as stk : List Value} {μ0 μ1 : zMem} (hd : decode M.2.1 pc = .ok (.invokestatic idx, 3)) (hm : zMf m n) (hsta : Cond.static m.1 ∈ ztb) (hlink : Cond.methodLink M.1.cls idx m.1 ∈ ztb ∨ ∃ host, Cond.methodLinkNest M.1.cls idx m.1 host ∈ lw_tbl)
    (ct : zCt l Z m k' 0 0 as μ0 (fun r μ' => r = none ∧ μ' = μ1)) (hn : as.length = n) (hkk : k' < kk) (hs : stk = as.reverse ++ st) (hL : L.length = M.2.2.1) (h8 : (st.map fun v => v.category).sum ≤ 8) (hc : c ≤ mc) (hk : k ≤ ms)
    (h : zJ τ F (pc + 3) L st μ1 c k) : zJ τ F pc L stk μ0 c k :=
  J_callS hY hd hm hsta hlink ct hn hkk hs hL h8 hc hk (fun r μ' q => by obtain ⟨rfl, rfl⟩ := q; exact h)
theorem R_callV1 (hY : zCy l Z τ M kk mc ms) {m : zM} {n k' idx b ci : Nat} {as stk : List Value} {v : Value} {μ0 μ1 : zMem} (hd : decode M.2.1 pc = .ok (.invokevirtual idx, 3)) (hm : zMf m n) (hins : Cond.instanceMethod m.1 ∈ ztb) (hsel : Cond.selects m.1.cls m.1 m.1 ∈ ztb) (hlink : Cond.methodLink M.1.cls idx m.1 ∈ ztb ∨ ∃ host, Cond.methodLinkNest M.1.cls idx m.1 host ∈ lw_tbl)
    (hci : ci < 9 ∧ zRX ci = m.1.cls) (hb : zK μ0 b = ci + 8) (ct : zCt l Z m k' 0 0 (.ref b :: as) μ0 (fun r μ' => r = some v ∧ μ' = μ1)) (hn : as.length = n) (hkk : k' < kk) (hs : stk = as.reverse ++ .ref b :: st) (hL : L.length = M.2.2.1) (h8 : (st.map fun v => v.category).sum ≤ 8) (hc : c ≤ mc) (hk : k ≤ ms)
    (h : zJ τ F (pc + 3) L (v :: st) μ1 c k) : zJ τ F pc L stk μ0 c k :=
  J_callV hY hd hm hins hsel hlink hci hb ct hn hkk hs hL h8 hc hk (fun r μ' q => by obtain ⟨rfl, rfl⟩ := q; exact h)
theorem R_callV0 (hY : zCy l Z τ M kk mc ms) {m : zM} {n k' idx b ci : Nat} {as stk : List Value} {μ0 μ1 : zMem} (hd : decode M.2.1 pc = .ok (.invokevirtual idx, 3)) (hm : zMf m n) (hins : Cond.instanceMethod m.1 ∈ ztb) (hsel : Cond.selects m.1.cls m.1 m.1 ∈ ztb) (hlink : Cond.methodLink M.1.cls idx m.1 ∈ ztb ∨ ∃ host, Cond.methodLinkNest M.1.cls idx m.1 host ∈ lw_tbl)
    (hci : ci < 9 ∧ zRX ci = m.1.cls) (hb : zK μ0 b = ci + 8) (ct : zCt l Z m k' 0 0 (.ref b :: as) μ0 (fun r μ' => r = none ∧ μ' = μ1)) (hn : as.length = n) (hkk : k' < kk) (hs : stk = as.reverse ++ .ref b :: st) (hL : L.length = M.2.2.1) (h8 : (st.map fun v => v.category).sum ≤ 8) (hc : c ≤ mc) (hk : k ≤ ms)
    (h : zJ τ F (pc + 3) L st μ1 c k) : zJ τ F pc L stk μ0 c k :=
  J_callV hY hd hm hins hsel hlink hci hb ct hn hkk hs hL h8 hc hk (fun r μ' q => by obtain ⟨rfl, rfl⟩ := q; exact h)

theorem S_istore0 (hT : zCx τ M kk mc ms) {q : Fin 4} {x : Int32} {x0 : Option Value} (hd : decode M.2.1 pc = .ok (.istore_n q, 1)) (hi : (q : Nat) = 0) (h : zJ τ F (pc + 1) (some (.int x) :: L) st μ c k) : zJ τ F pc (x0 :: L) (.int x :: st) μ c k := by
  exact J_istore_n (i := 0) hT hd hi (by simp) h

theorem S_astore0 (hT : zCx τ M kk mc ms) {q : Fin 4} {x : Nat} {x0 : Option Value} (hd : decode M.2.1 pc = .ok (.astore_n q, 1)) (hi : (q : Nat) = 0) (h : zJ τ F (pc + 1) (some (.ref x) :: L) st μ c k) : zJ τ F pc (x0 :: L) (.ref x :: st) μ c k := by
  exact J_astore_n (i := 0) hT hd hi (by simp) h

theorem S_astoreN0 (hT : zCx τ M kk mc ms) {q : Fin 4} {x0 : Option Value} (hd : decode M.2.1 pc = .ok (.astore_n q, 1)) (hi : (q : Nat) = 0) (h : zJ τ F (pc + 1) (some (.null) :: L) st μ c k) : zJ τ F pc (x0 :: L) (.null :: st) μ c k := by
  exact J_astore_nN (i := 0) hT hd hi (by simp) h

theorem S_iinc0 (hT : zCx τ M kk mc ms) {n : Int} {x v : Int32} (hd : decode M.2.1 pc = .ok (.iinc 0 n, 3)) (hv : x + Int32.ofInt n = v) (h : zJ τ F (pc + 3) (some (.int v) :: L) st μ c k) : zJ τ F pc (some (.int x) :: L) st μ c k := by
  exact J_iinc (i := 0) hT hd rfl hv h

theorem S_lstore0 (hT : zCx τ M kk mc ms) {q : Fin 4} {x : Int64} {x0 x1 : Option Value} (hd : decode M.2.1 pc = .ok (.lstore_n q, 1)) (hi : (q : Nat) = 0) (h : zJ τ F (pc + 1) (some (.long x) :: none :: L) st μ c k) : zJ τ F pc (x0 :: x1 :: L) (.long x :: st) μ c k := by
  refine J_lstore_n (i := 0) hT hd hi (by simp) ?_
  exact h

theorem S_istore1 (hT : zCx τ M kk mc ms) {q : Fin 4} {x : Int32} {x0 x1 : Option Value} (hd : decode M.2.1 pc = .ok (.istore_n q, 1)) (hi : (q : Nat) = 1) (hx : znl x0 = true) (h : zJ τ F (pc + 1) (x0 :: some (.int x) :: L) st μ c k) : zJ τ F pc (x0 :: x1 :: L) (.int x :: st) μ c k := by
  refine J_istore_n (i := 1) hT hd hi (by simp) ?_
  rw [zst1_nl (k := 0) (x := x0) rfl hx]
  exact h

theorem S_astore1 (hT : zCx τ M kk mc ms) {q : Fin 4} {x : Nat} {x0 x1 : Option Value} (hd : decode M.2.1 pc = .ok (.astore_n q, 1)) (hi : (q : Nat) = 1) (hx : znl x0 = true) (h : zJ τ F (pc + 1) (x0 :: some (.ref x) :: L) st μ c k) : zJ τ F pc (x0 :: x1 :: L) (.ref x :: st) μ c k := by
  refine J_astore_n (i := 1) hT hd hi (by simp) ?_
  rw [zst1_nl (k := 0) (x := x0) rfl hx]
  exact h

theorem S_astoreN1 (hT : zCx τ M kk mc ms) {q : Fin 4} {x0 x1 : Option Value} (hd : decode M.2.1 pc = .ok (.astore_n q, 1)) (hi : (q : Nat) = 1) (hx : znl x0 = true) (h : zJ τ F (pc + 1) (x0 :: some (.null) :: L) st μ c k) : zJ τ F pc (x0 :: x1 :: L) (.null :: st) μ c k := by
  refine J_astore_nN (i := 1) hT hd hi (by simp) ?_
  rw [zst1_nl (k := 0) (x := x0) rfl hx]
  exact h

theorem S_iinc1 (hT : zCx τ M kk mc ms) {n : Int} {x v : Int32} {x0 : Option Value} (hd : decode M.2.1 pc = .ok (.iinc 1 n, 3)) (hv : x + Int32.ofInt n = v) (hx : znl x0 = true) (h : zJ τ F (pc + 3) (x0 :: some (.int v) :: L) st μ c k) : zJ τ F pc (x0 :: some (.int x) :: L) st μ c k := by
  refine J_iinc (i := 1) hT hd rfl hv ?_
  rw [zst1_nl (k := 0) (x := x0) rfl hx]
  exact h

theorem S_lstore1 (hT : zCx τ M kk mc ms) {q : Fin 4} {x : Int64} {x0 x1 x2 : Option Value} (hd : decode M.2.1 pc = .ok (.lstore_n q, 1)) (hi : (q : Nat) = 1) (hx : znl x0 = true) (h : zJ τ F (pc + 1) (x0 :: some (.long x) :: none :: L) st μ c k) : zJ τ F pc (x0 :: x1 :: x2 :: L) (.long x :: st) μ c k := by
  refine J_lstore_n (i := 1) hT hd hi (by simp) ?_
  unfold zst2
  rw [zst1_nl (k := 0) (x := x0) rfl hx]
  exact h

theorem S_istore2 (hT : zCx τ M kk mc ms) {q : Fin 4} {x : Int32} {x0 x1 x2 : Option Value} (hd : decode M.2.1 pc = .ok (.istore_n q, 1)) (hi : (q : Nat) = 2) (hx : znl x1 = true) (h : zJ τ F (pc + 1) (x0 :: x1 :: some (.int x) :: L) st μ c k) : zJ τ F pc (x0 :: x1 :: x2 :: L) (.int x :: st) μ c k := by
  refine J_istore_n (i := 2) hT hd hi (by simp) ?_
  rw [zst1_nl (k := 1) (x := x1) rfl hx]
  exact h

theorem S_astore2 (hT : zCx τ M kk mc ms) {q : Fin 4} {x : Nat} {x0 x1 x2 : Option Value} (hd : decode M.2.1 pc = .ok (.astore_n q, 1)) (hi : (q : Nat) = 2) (hx : znl x1 = true) (h : zJ τ F (pc + 1) (x0 :: x1 :: some (.ref x) :: L) st μ c k) : zJ τ F pc (x0 :: x1 :: x2 :: L) (.ref x :: st) μ c k := by
  refine J_astore_n (i := 2) hT hd hi (by simp) ?_
  rw [zst1_nl (k := 1) (x := x1) rfl hx]
  exact h

theorem S_astoreN2 (hT : zCx τ M kk mc ms) {q : Fin 4} {x0 x1 x2 : Option Value} (hd : decode M.2.1 pc = .ok (.astore_n q, 1)) (hi : (q : Nat) = 2) (hx : znl x1 = true) (h : zJ τ F (pc + 1) (x0 :: x1 :: some (.null) :: L) st μ c k) : zJ τ F pc (x0 :: x1 :: x2 :: L) (.null :: st) μ c k := by
  refine J_astore_nN (i := 2) hT hd hi (by simp) ?_
  rw [zst1_nl (k := 1) (x := x1) rfl hx]
  exact h

theorem S_iinc2 (hT : zCx τ M kk mc ms) {n : Int} {x v : Int32} {x0 x1 : Option Value} (hd : decode M.2.1 pc = .ok (.iinc 2 n, 3)) (hv : x + Int32.ofInt n = v) (hx : znl x1 = true) (h : zJ τ F (pc + 3) (x0 :: x1 :: some (.int v) :: L) st μ c k) : zJ τ F pc (x0 :: x1 :: some (.int x) :: L) st μ c k := by
  refine J_iinc (i := 2) hT hd rfl hv ?_
  rw [zst1_nl (k := 1) (x := x1) rfl hx]
  exact h

theorem S_lstore2 (hT : zCx τ M kk mc ms) {q : Fin 4} {x : Int64} {x0 x1 x2 x3 : Option Value} (hd : decode M.2.1 pc = .ok (.lstore_n q, 1)) (hi : (q : Nat) = 2) (hx : znl x1 = true) (h : zJ τ F (pc + 1) (x0 :: x1 :: some (.long x) :: none :: L) st μ c k) : zJ τ F pc (x0 :: x1 :: x2 :: x3 :: L) (.long x :: st) μ c k := by
  refine J_lstore_n (i := 2) hT hd hi (by simp) ?_
  unfold zst2
  rw [zst1_nl (k := 1) (x := x1) rfl hx]
  exact h

theorem S_istore3 (hT : zCx τ M kk mc ms) {q : Fin 4} {x : Int32} {x0 x1 x2 x3 : Option Value} (hd : decode M.2.1 pc = .ok (.istore_n q, 1)) (hi : (q : Nat) = 3) (hx : znl x2 = true) (h : zJ τ F (pc + 1) (x0 :: x1 :: x2 :: some (.int x) :: L) st μ c k) : zJ τ F pc (x0 :: x1 :: x2 :: x3 :: L) (.int x :: st) μ c k := by
  refine J_istore_n (i := 3) hT hd hi (by simp) ?_
  rw [zst1_nl (k := 2) (x := x2) rfl hx]
  exact h

theorem S_astore3 (hT : zCx τ M kk mc ms) {q : Fin 4} {x : Nat} {x0 x1 x2 x3 : Option Value} (hd : decode M.2.1 pc = .ok (.astore_n q, 1)) (hi : (q : Nat) = 3) (hx : znl x2 = true) (h : zJ τ F (pc + 1) (x0 :: x1 :: x2 :: some (.ref x) :: L) st μ c k) : zJ τ F pc (x0 :: x1 :: x2 :: x3 :: L) (.ref x :: st) μ c k := by
  refine J_astore_n (i := 3) hT hd hi (by simp) ?_
  rw [zst1_nl (k := 2) (x := x2) rfl hx]
  exact h

theorem S_astoreN3 (hT : zCx τ M kk mc ms) {q : Fin 4} {x0 x1 x2 x3 : Option Value} (hd : decode M.2.1 pc = .ok (.astore_n q, 1)) (hi : (q : Nat) = 3) (hx : znl x2 = true) (h : zJ τ F (pc + 1) (x0 :: x1 :: x2 :: some (.null) :: L) st μ c k) : zJ τ F pc (x0 :: x1 :: x2 :: x3 :: L) (.null :: st) μ c k := by
  refine J_astore_nN (i := 3) hT hd hi (by simp) ?_
  rw [zst1_nl (k := 2) (x := x2) rfl hx]
  exact h

theorem S_iinc3 (hT : zCx τ M kk mc ms) {n : Int} {x v : Int32} {x0 x1 x2 : Option Value} (hd : decode M.2.1 pc = .ok (.iinc 3 n, 3)) (hv : x + Int32.ofInt n = v) (hx : znl x2 = true) (h : zJ τ F (pc + 3) (x0 :: x1 :: x2 :: some (.int v) :: L) st μ c k) : zJ τ F pc (x0 :: x1 :: x2 :: some (.int x) :: L) st μ c k := by
  refine J_iinc (i := 3) hT hd rfl hv ?_
  rw [zst1_nl (k := 2) (x := x2) rfl hx]
  exact h

theorem S_lstore3 (hT : zCx τ M kk mc ms) {q : Fin 4} {x : Int64} {x0 x1 x2 x3 x4 : Option Value} (hd : decode M.2.1 pc = .ok (.lstore_n q, 1)) (hi : (q : Nat) = 3) (hx : znl x2 = true) (h : zJ τ F (pc + 1) (x0 :: x1 :: x2 :: some (.long x) :: none :: L) st μ c k) : zJ τ F pc (x0 :: x1 :: x2 :: x3 :: x4 :: L) (.long x :: st) μ c k := by
  refine J_lstore_n (i := 3) hT hd hi (by simp) ?_
  unfold zst2
  rw [zst1_nl (k := 2) (x := x2) rfl hx]
  exact h

theorem S_istore4 (hT : zCx τ M kk mc ms) {x : Int32} {x0 x1 x2 x3 x4 : Option Value} (hd : decode M.2.1 pc = .ok (.istore 4, 2)) (hx : znl x3 = true) (h : zJ τ F (pc + 2) (x0 :: x1 :: x2 :: x3 :: some (.int x) :: L) st μ c k) : zJ τ F pc (x0 :: x1 :: x2 :: x3 :: x4 :: L) (.int x :: st) μ c k := by
  refine J_istore (i := 4) hT hd (by simp) ?_
  rw [zst1_nl (k := 3) (x := x3) rfl hx]
  exact h

theorem S_astore4 (hT : zCx τ M kk mc ms) {x : Nat} {x0 x1 x2 x3 x4 : Option Value} (hd : decode M.2.1 pc = .ok (.astore 4, 2)) (hx : znl x3 = true) (h : zJ τ F (pc + 2) (x0 :: x1 :: x2 :: x3 :: some (.ref x) :: L) st μ c k) : zJ τ F pc (x0 :: x1 :: x2 :: x3 :: x4 :: L) (.ref x :: st) μ c k := by
  refine J_astore (i := 4) hT hd (by simp) ?_
  rw [zst1_nl (k := 3) (x := x3) rfl hx]
  exact h

theorem S_astoreN4 (hT : zCx τ M kk mc ms) {x0 x1 x2 x3 x4 : Option Value} (hd : decode M.2.1 pc = .ok (.astore 4, 2)) (hx : znl x3 = true) (h : zJ τ F (pc + 2) (x0 :: x1 :: x2 :: x3 :: some (.null) :: L) st μ c k) : zJ τ F pc (x0 :: x1 :: x2 :: x3 :: x4 :: L) (.null :: st) μ c k := by
  refine J_astoreN (i := 4) hT hd (by simp) ?_
  rw [zst1_nl (k := 3) (x := x3) rfl hx]
  exact h

theorem S_iinc4 (hT : zCx τ M kk mc ms) {n : Int} {x v : Int32} {x0 x1 x2 x3 : Option Value} (hd : decode M.2.1 pc = .ok (.iinc 4 n, 3)) (hv : x + Int32.ofInt n = v) (hx : znl x3 = true) (h : zJ τ F (pc + 3) (x0 :: x1 :: x2 :: x3 :: some (.int v) :: L) st μ c k) : zJ τ F pc (x0 :: x1 :: x2 :: x3 :: some (.int x) :: L) st μ c k := by
  refine J_iinc (i := 4) hT hd rfl hv ?_
  rw [zst1_nl (k := 3) (x := x3) rfl hx]
  exact h

theorem S_lstore4 (hT : zCx τ M kk mc ms) {x : Int64} {x0 x1 x2 x3 x4 x5 : Option Value} (hd : decode M.2.1 pc = .ok (.lstore 4, 2)) (hx : znl x3 = true) (h : zJ τ F (pc + 2) (x0 :: x1 :: x2 :: x3 :: some (.long x) :: none :: L) st μ c k) : zJ τ F pc (x0 :: x1 :: x2 :: x3 :: x4 :: x5 :: L) (.long x :: st) μ c k := by
  refine J_lstore (i := 4) hT hd (by simp) ?_
  unfold zst2
  rw [zst1_nl (k := 3) (x := x3) rfl hx]
  exact h

theorem S_istore5 (hT : zCx τ M kk mc ms) {x : Int32} {x0 x1 x2 x3 x4 x5 : Option Value} (hd : decode M.2.1 pc = .ok (.istore 5, 2)) (hx : znl x4 = true) (h : zJ τ F (pc + 2) (x0 :: x1 :: x2 :: x3 :: x4 :: some (.int x) :: L) st μ c k) : zJ τ F pc (x0 :: x1 :: x2 :: x3 :: x4 :: x5 :: L) (.int x :: st) μ c k := by
  refine J_istore (i := 5) hT hd (by simp) ?_
  rw [zst1_nl (k := 4) (x := x4) rfl hx]
  exact h

theorem S_astore5 (hT : zCx τ M kk mc ms) {x : Nat} {x0 x1 x2 x3 x4 x5 : Option Value} (hd : decode M.2.1 pc = .ok (.astore 5, 2)) (hx : znl x4 = true) (h : zJ τ F (pc + 2) (x0 :: x1 :: x2 :: x3 :: x4 :: some (.ref x) :: L) st μ c k) : zJ τ F pc (x0 :: x1 :: x2 :: x3 :: x4 :: x5 :: L) (.ref x :: st) μ c k := by
  refine J_astore (i := 5) hT hd (by simp) ?_
  rw [zst1_nl (k := 4) (x := x4) rfl hx]
  exact h

theorem S_astoreN5 (hT : zCx τ M kk mc ms) {x0 x1 x2 x3 x4 x5 : Option Value} (hd : decode M.2.1 pc = .ok (.astore 5, 2)) (hx : znl x4 = true) (h : zJ τ F (pc + 2) (x0 :: x1 :: x2 :: x3 :: x4 :: some (.null) :: L) st μ c k) : zJ τ F pc (x0 :: x1 :: x2 :: x3 :: x4 :: x5 :: L) (.null :: st) μ c k := by
  refine J_astoreN (i := 5) hT hd (by simp) ?_
  rw [zst1_nl (k := 4) (x := x4) rfl hx]
  exact h

theorem S_iinc5 (hT : zCx τ M kk mc ms) {n : Int} {x v : Int32} {x0 x1 x2 x3 x4 : Option Value} (hd : decode M.2.1 pc = .ok (.iinc 5 n, 3)) (hv : x + Int32.ofInt n = v) (hx : znl x4 = true) (h : zJ τ F (pc + 3) (x0 :: x1 :: x2 :: x3 :: x4 :: some (.int v) :: L) st μ c k) : zJ τ F pc (x0 :: x1 :: x2 :: x3 :: x4 :: some (.int x) :: L) st μ c k := by
  refine J_iinc (i := 5) hT hd rfl hv ?_
  rw [zst1_nl (k := 4) (x := x4) rfl hx]
  exact h

theorem S_lstore5 (hT : zCx τ M kk mc ms) {x : Int64} {x0 x1 x2 x3 x4 x5 x6 : Option Value} (hd : decode M.2.1 pc = .ok (.lstore 5, 2)) (hx : znl x4 = true) (h : zJ τ F (pc + 2) (x0 :: x1 :: x2 :: x3 :: x4 :: some (.long x) :: none :: L) st μ c k) : zJ τ F pc (x0 :: x1 :: x2 :: x3 :: x4 :: x5 :: x6 :: L) (.long x :: st) μ c k := by
  refine J_lstore (i := 5) hT hd (by simp) ?_
  unfold zst2
  rw [zst1_nl (k := 4) (x := x4) rfl hx]
  exact h

theorem S_istore6 (hT : zCx τ M kk mc ms) {x : Int32} {x0 x1 x2 x3 x4 x5 x6 : Option Value} (hd : decode M.2.1 pc = .ok (.istore 6, 2)) (hx : znl x5 = true) (h : zJ τ F (pc + 2) (x0 :: x1 :: x2 :: x3 :: x4 :: x5 :: some (.int x) :: L) st μ c k) : zJ τ F pc (x0 :: x1 :: x2 :: x3 :: x4 :: x5 :: x6 :: L) (.int x :: st) μ c k := by
  refine J_istore (i := 6) hT hd (by simp) ?_
  rw [zst1_nl (k := 5) (x := x5) rfl hx]
  exact h

theorem S_astore6 (hT : zCx τ M kk mc ms) {x : Nat} {x0 x1 x2 x3 x4 x5 x6 : Option Value} (hd : decode M.2.1 pc = .ok (.astore 6, 2)) (hx : znl x5 = true) (h : zJ τ F (pc + 2) (x0 :: x1 :: x2 :: x3 :: x4 :: x5 :: some (.ref x) :: L) st μ c k) : zJ τ F pc (x0 :: x1 :: x2 :: x3 :: x4 :: x5 :: x6 :: L) (.ref x :: st) μ c k := by
  refine J_astore (i := 6) hT hd (by simp) ?_
  rw [zst1_nl (k := 5) (x := x5) rfl hx]
  exact h

theorem S_astoreN6 (hT : zCx τ M kk mc ms) {x0 x1 x2 x3 x4 x5 x6 : Option Value} (hd : decode M.2.1 pc = .ok (.astore 6, 2)) (hx : znl x5 = true) (h : zJ τ F (pc + 2) (x0 :: x1 :: x2 :: x3 :: x4 :: x5 :: some (.null) :: L) st μ c k) : zJ τ F pc (x0 :: x1 :: x2 :: x3 :: x4 :: x5 :: x6 :: L) (.null :: st) μ c k := by
  refine J_astoreN (i := 6) hT hd (by simp) ?_
  rw [zst1_nl (k := 5) (x := x5) rfl hx]
  exact h

theorem S_iinc6 (hT : zCx τ M kk mc ms) {n : Int} {x v : Int32} {x0 x1 x2 x3 x4 x5 : Option Value} (hd : decode M.2.1 pc = .ok (.iinc 6 n, 3)) (hv : x + Int32.ofInt n = v) (hx : znl x5 = true) (h : zJ τ F (pc + 3) (x0 :: x1 :: x2 :: x3 :: x4 :: x5 :: some (.int v) :: L) st μ c k) : zJ τ F pc (x0 :: x1 :: x2 :: x3 :: x4 :: x5 :: some (.int x) :: L) st μ c k := by
  refine J_iinc (i := 6) hT hd rfl hv ?_
  rw [zst1_nl (k := 5) (x := x5) rfl hx]
  exact h

theorem S_lstore6 (hT : zCx τ M kk mc ms) {x : Int64} {x0 x1 x2 x3 x4 x5 x6 x7 : Option Value} (hd : decode M.2.1 pc = .ok (.lstore 6, 2)) (hx : znl x5 = true) (h : zJ τ F (pc + 2) (x0 :: x1 :: x2 :: x3 :: x4 :: x5 :: some (.long x) :: none :: L) st μ c k) : zJ τ F pc (x0 :: x1 :: x2 :: x3 :: x4 :: x5 :: x6 :: x7 :: L) (.long x :: st) μ c k := by
  refine J_lstore (i := 6) hT hd (by simp) ?_
  unfold zst2
  rw [zst1_nl (k := 5) (x := x5) rfl hx]
  exact h

theorem S_istore7 (hT : zCx τ M kk mc ms) {x : Int32} {x0 x1 x2 x3 x4 x5 x6 x7 : Option Value} (hd : decode M.2.1 pc = .ok (.istore 7, 2)) (hx : znl x6 = true) (h : zJ τ F (pc + 2) (x0 :: x1 :: x2 :: x3 :: x4 :: x5 :: x6 :: some (.int x) :: L) st μ c k) : zJ τ F pc (x0 :: x1 :: x2 :: x3 :: x4 :: x5 :: x6 :: x7 :: L) (.int x :: st) μ c k := by
  refine J_istore (i := 7) hT hd (by simp) ?_
  rw [zst1_nl (k := 6) (x := x6) rfl hx]
  exact h

theorem S_astore7 (hT : zCx τ M kk mc ms) {x : Nat} {x0 x1 x2 x3 x4 x5 x6 x7 : Option Value} (hd : decode M.2.1 pc = .ok (.astore 7, 2)) (hx : znl x6 = true) (h : zJ τ F (pc + 2) (x0 :: x1 :: x2 :: x3 :: x4 :: x5 :: x6 :: some (.ref x) :: L) st μ c k) : zJ τ F pc (x0 :: x1 :: x2 :: x3 :: x4 :: x5 :: x6 :: x7 :: L) (.ref x :: st) μ c k := by
  refine J_astore (i := 7) hT hd (by simp) ?_
  rw [zst1_nl (k := 6) (x := x6) rfl hx]
  exact h

theorem S_astoreN7 (hT : zCx τ M kk mc ms) {x0 x1 x2 x3 x4 x5 x6 x7 : Option Value} (hd : decode M.2.1 pc = .ok (.astore 7, 2)) (hx : znl x6 = true) (h : zJ τ F (pc + 2) (x0 :: x1 :: x2 :: x3 :: x4 :: x5 :: x6 :: some (.null) :: L) st μ c k) : zJ τ F pc (x0 :: x1 :: x2 :: x3 :: x4 :: x5 :: x6 :: x7 :: L) (.null :: st) μ c k := by
  refine J_astoreN (i := 7) hT hd (by simp) ?_
  rw [zst1_nl (k := 6) (x := x6) rfl hx]
  exact h

theorem S_iinc7 (hT : zCx τ M kk mc ms) {n : Int} {x v : Int32} {x0 x1 x2 x3 x4 x5 x6 : Option Value} (hd : decode M.2.1 pc = .ok (.iinc 7 n, 3)) (hv : x + Int32.ofInt n = v) (hx : znl x6 = true) (h : zJ τ F (pc + 3) (x0 :: x1 :: x2 :: x3 :: x4 :: x5 :: x6 :: some (.int v) :: L) st μ c k) : zJ τ F pc (x0 :: x1 :: x2 :: x3 :: x4 :: x5 :: x6 :: some (.int x) :: L) st μ c k := by
  refine J_iinc (i := 7) hT hd rfl hv ?_
  rw [zst1_nl (k := 6) (x := x6) rfl hx]
  exact h

theorem S_lstore7 (hT : zCx τ M kk mc ms) {x : Int64} {x0 x1 x2 x3 x4 x5 x6 x7 x8 : Option Value} (hd : decode M.2.1 pc = .ok (.lstore 7, 2)) (hx : znl x6 = true) (h : zJ τ F (pc + 2) (x0 :: x1 :: x2 :: x3 :: x4 :: x5 :: x6 :: some (.long x) :: none :: L) st μ c k) : zJ τ F pc (x0 :: x1 :: x2 :: x3 :: x4 :: x5 :: x6 :: x7 :: x8 :: L) (.long x :: st) μ c k := by
  refine J_lstore (i := 7) hT hd (by simp) ?_
  unfold zst2
  rw [zst1_nl (k := 6) (x := x6) rfl hx]
  exact h

theorem S_istore8 (hT : zCx τ M kk mc ms) {x : Int32} {x0 x1 x2 x3 x4 x5 x6 x7 x8 : Option Value} (hd : decode M.2.1 pc = .ok (.istore 8, 2)) (hx : znl x7 = true) (h : zJ τ F (pc + 2) (x0 :: x1 :: x2 :: x3 :: x4 :: x5 :: x6 :: x7 :: some (.int x) :: L) st μ c k) : zJ τ F pc (x0 :: x1 :: x2 :: x3 :: x4 :: x5 :: x6 :: x7 :: x8 :: L) (.int x :: st) μ c k := by
  refine J_istore (i := 8) hT hd (by simp) ?_
  rw [zst1_nl (k := 7) (x := x7) rfl hx]
  exact h

theorem S_astore8 (hT : zCx τ M kk mc ms) {x : Nat} {x0 x1 x2 x3 x4 x5 x6 x7 x8 : Option Value} (hd : decode M.2.1 pc = .ok (.astore 8, 2)) (hx : znl x7 = true) (h : zJ τ F (pc + 2) (x0 :: x1 :: x2 :: x3 :: x4 :: x5 :: x6 :: x7 :: some (.ref x) :: L) st μ c k) : zJ τ F pc (x0 :: x1 :: x2 :: x3 :: x4 :: x5 :: x6 :: x7 :: x8 :: L) (.ref x :: st) μ c k := by
  refine J_astore (i := 8) hT hd (by simp) ?_
  rw [zst1_nl (k := 7) (x := x7) rfl hx]
  exact h

theorem S_astoreN8 (hT : zCx τ M kk mc ms) {x0 x1 x2 x3 x4 x5 x6 x7 x8 : Option Value} (hd : decode M.2.1 pc = .ok (.astore 8, 2)) (hx : znl x7 = true) (h : zJ τ F (pc + 2) (x0 :: x1 :: x2 :: x3 :: x4 :: x5 :: x6 :: x7 :: some (.null) :: L) st μ c k) : zJ τ F pc (x0 :: x1 :: x2 :: x3 :: x4 :: x5 :: x6 :: x7 :: x8 :: L) (.null :: st) μ c k := by
  refine J_astoreN (i := 8) hT hd (by simp) ?_
  rw [zst1_nl (k := 7) (x := x7) rfl hx]
  exact h

theorem S_iinc8 (hT : zCx τ M kk mc ms) {n : Int} {x v : Int32} {x0 x1 x2 x3 x4 x5 x6 x7 : Option Value} (hd : decode M.2.1 pc = .ok (.iinc 8 n, 3)) (hv : x + Int32.ofInt n = v) (hx : znl x7 = true) (h : zJ τ F (pc + 3) (x0 :: x1 :: x2 :: x3 :: x4 :: x5 :: x6 :: x7 :: some (.int v) :: L) st μ c k) : zJ τ F pc (x0 :: x1 :: x2 :: x3 :: x4 :: x5 :: x6 :: x7 :: some (.int x) :: L) st μ c k := by
  refine J_iinc (i := 8) hT hd rfl hv ?_
  rw [zst1_nl (k := 7) (x := x7) rfl hx]
  exact h

theorem S_lstore8 (hT : zCx τ M kk mc ms) {x : Int64} {x0 x1 x2 x3 x4 x5 x6 x7 x8 x9 : Option Value} (hd : decode M.2.1 pc = .ok (.lstore 8, 2)) (hx : znl x7 = true) (h : zJ τ F (pc + 2) (x0 :: x1 :: x2 :: x3 :: x4 :: x5 :: x6 :: x7 :: some (.long x) :: none :: L) st μ c k) : zJ τ F pc (x0 :: x1 :: x2 :: x3 :: x4 :: x5 :: x6 :: x7 :: x8 :: x9 :: L) (.long x :: st) μ c k := by
  refine J_lstore (i := 8) hT hd (by simp) ?_
  unfold zst2
  rw [zst1_nl (k := 7) (x := x7) rfl hx]
  exact h

theorem S_istore9 (hT : zCx τ M kk mc ms) {x : Int32} {x0 x1 x2 x3 x4 x5 x6 x7 x8 x9 : Option Value} (hd : decode M.2.1 pc = .ok (.istore 9, 2)) (hx : znl x8 = true) (h : zJ τ F (pc + 2) (x0 :: x1 :: x2 :: x3 :: x4 :: x5 :: x6 :: x7 :: x8 :: some (.int x) :: L) st μ c k) : zJ τ F pc (x0 :: x1 :: x2 :: x3 :: x4 :: x5 :: x6 :: x7 :: x8 :: x9 :: L) (.int x :: st) μ c k := by
  refine J_istore (i := 9) hT hd (by simp) ?_
  rw [zst1_nl (k := 8) (x := x8) rfl hx]
  exact h

theorem S_astore9 (hT : zCx τ M kk mc ms) {x : Nat} {x0 x1 x2 x3 x4 x5 x6 x7 x8 x9 : Option Value} (hd : decode M.2.1 pc = .ok (.astore 9, 2)) (hx : znl x8 = true) (h : zJ τ F (pc + 2) (x0 :: x1 :: x2 :: x3 :: x4 :: x5 :: x6 :: x7 :: x8 :: some (.ref x) :: L) st μ c k) : zJ τ F pc (x0 :: x1 :: x2 :: x3 :: x4 :: x5 :: x6 :: x7 :: x8 :: x9 :: L) (.ref x :: st) μ c k := by
  refine J_astore (i := 9) hT hd (by simp) ?_
  rw [zst1_nl (k := 8) (x := x8) rfl hx]
  exact h

theorem S_astoreN9 (hT : zCx τ M kk mc ms) {x0 x1 x2 x3 x4 x5 x6 x7 x8 x9 : Option Value} (hd : decode M.2.1 pc = .ok (.astore 9, 2)) (hx : znl x8 = true) (h : zJ τ F (pc + 2) (x0 :: x1 :: x2 :: x3 :: x4 :: x5 :: x6 :: x7 :: x8 :: some (.null) :: L) st μ c k) : zJ τ F pc (x0 :: x1 :: x2 :: x3 :: x4 :: x5 :: x6 :: x7 :: x8 :: x9 :: L) (.null :: st) μ c k := by
  refine J_astoreN (i := 9) hT hd (by simp) ?_
  rw [zst1_nl (k := 8) (x := x8) rfl hx]
  exact h

theorem S_iinc9 (hT : zCx τ M kk mc ms) {n : Int} {x v : Int32} {x0 x1 x2 x3 x4 x5 x6 x7 x8 : Option Value} (hd : decode M.2.1 pc = .ok (.iinc 9 n, 3)) (hv : x + Int32.ofInt n = v) (hx : znl x8 = true) (h : zJ τ F (pc + 3) (x0 :: x1 :: x2 :: x3 :: x4 :: x5 :: x6 :: x7 :: x8 :: some (.int v) :: L) st μ c k) : zJ τ F pc (x0 :: x1 :: x2 :: x3 :: x4 :: x5 :: x6 :: x7 :: x8 :: some (.int x) :: L) st μ c k := by
  refine J_iinc (i := 9) hT hd rfl hv ?_
  rw [zst1_nl (k := 8) (x := x8) rfl hx]
  exact h

theorem S_lstore9 (hT : zCx τ M kk mc ms) {x : Int64} {x0 x1 x2 x3 x4 x5 x6 x7 x8 x9 x10 : Option Value} (hd : decode M.2.1 pc = .ok (.lstore 9, 2)) (hx : znl x8 = true) (h : zJ τ F (pc + 2) (x0 :: x1 :: x2 :: x3 :: x4 :: x5 :: x6 :: x7 :: x8 :: some (.long x) :: none :: L) st μ c k) : zJ τ F pc (x0 :: x1 :: x2 :: x3 :: x4 :: x5 :: x6 :: x7 :: x8 :: x9 :: x10 :: L) (.long x :: st) μ c k := by
  refine J_lstore (i := 9) hT hd (by simp) ?_
  unfold zst2
  rw [zst1_nl (k := 8) (x := x8) rfl hx]
  exact h

theorem S_istore10 (hT : zCx τ M kk mc ms) {x : Int32} {x0 x1 x2 x3 x4 x5 x6 x7 x8 x9 x10 : Option Value} (hd : decode M.2.1 pc = .ok (.istore 10, 2)) (hx : znl x9 = true) (h : zJ τ F (pc + 2) (x0 :: x1 :: x2 :: x3 :: x4 :: x5 :: x6 :: x7 :: x8 :: x9 :: some (.int x) :: L) st μ c k) : zJ τ F pc (x0 :: x1 :: x2 :: x3 :: x4 :: x5 :: x6 :: x7 :: x8 :: x9 :: x10 :: L) (.int x :: st) μ c k := by
  refine J_istore (i := 10) hT hd (by simp) ?_
  rw [zst1_nl (k := 9) (x := x9) rfl hx]
  exact h

theorem S_astore10 (hT : zCx τ M kk mc ms) {x : Nat} {x0 x1 x2 x3 x4 x5 x6 x7 x8 x9 x10 : Option Value} (hd : decode M.2.1 pc = .ok (.astore 10, 2)) (hx : znl x9 = true) (h : zJ τ F (pc + 2) (x0 :: x1 :: x2 :: x3 :: x4 :: x5 :: x6 :: x7 :: x8 :: x9 :: some (.ref x) :: L) st μ c k) : zJ τ F pc (x0 :: x1 :: x2 :: x3 :: x4 :: x5 :: x6 :: x7 :: x8 :: x9 :: x10 :: L) (.ref x :: st) μ c k := by
  refine J_astore (i := 10) hT hd (by simp) ?_
  rw [zst1_nl (k := 9) (x := x9) rfl hx]
  exact h

theorem S_astoreN10 (hT : zCx τ M kk mc ms) {x0 x1 x2 x3 x4 x5 x6 x7 x8 x9 x10 : Option Value} (hd : decode M.2.1 pc = .ok (.astore 10, 2)) (hx : znl x9 = true) (h : zJ τ F (pc + 2) (x0 :: x1 :: x2 :: x3 :: x4 :: x5 :: x6 :: x7 :: x8 :: x9 :: some (.null) :: L) st μ c k) : zJ τ F pc (x0 :: x1 :: x2 :: x3 :: x4 :: x5 :: x6 :: x7 :: x8 :: x9 :: x10 :: L) (.null :: st) μ c k := by
  refine J_astoreN (i := 10) hT hd (by simp) ?_
  rw [zst1_nl (k := 9) (x := x9) rfl hx]
  exact h

theorem S_iinc10 (hT : zCx τ M kk mc ms) {n : Int} {x v : Int32} {x0 x1 x2 x3 x4 x5 x6 x7 x8 x9 : Option Value} (hd : decode M.2.1 pc = .ok (.iinc 10 n, 3)) (hv : x + Int32.ofInt n = v) (hx : znl x9 = true) (h : zJ τ F (pc + 3) (x0 :: x1 :: x2 :: x3 :: x4 :: x5 :: x6 :: x7 :: x8 :: x9 :: some (.int v) :: L) st μ c k) : zJ τ F pc (x0 :: x1 :: x2 :: x3 :: x4 :: x5 :: x6 :: x7 :: x8 :: x9 :: some (.int x) :: L) st μ c k := by
  refine J_iinc (i := 10) hT hd rfl hv ?_
  rw [zst1_nl (k := 9) (x := x9) rfl hx]
  exact h

theorem S_lstore10 (hT : zCx τ M kk mc ms) {x : Int64} {x0 x1 x2 x3 x4 x5 x6 x7 x8 x9 x10 x11 : Option Value} (hd : decode M.2.1 pc = .ok (.lstore 10, 2)) (hx : znl x9 = true) (h : zJ τ F (pc + 2) (x0 :: x1 :: x2 :: x3 :: x4 :: x5 :: x6 :: x7 :: x8 :: x9 :: some (.long x) :: none :: L) st μ c k) : zJ τ F pc (x0 :: x1 :: x2 :: x3 :: x4 :: x5 :: x6 :: x7 :: x8 :: x9 :: x10 :: x11 :: L) (.long x :: st) μ c k := by
  refine J_lstore (i := 10) hT hd (by simp) ?_
  unfold zst2
  rw [zst1_nl (k := 9) (x := x9) rfl hx]
  exact h

end ZRR

