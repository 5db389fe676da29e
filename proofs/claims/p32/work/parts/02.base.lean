/-! ===== the world as numbers: objects and arrays by the order in which they were made ===== -/
abbrev zM : Type := MethodName × ByteArray × Nat × Option FieldType
abbrev zMem : Type := Nat × (Nat → Nat) × (Nat → Nat) × (Nat → Nat → Int32) × (Nat → Nat → Option Nat) × (Nat → Nat → Int64)
def zN (μ : zMem) : Nat := μ.1
def zK (μ : zMem) : Nat → Nat := μ.2.1
def zL (μ : zMem) : Nat → Nat := μ.2.2.1
def zI (μ : zMem) : Nat → Nat → Int32 := μ.2.2.2.1
def zP (μ : zMem) : Nat → Nat → Option Nat := μ.2.2.2.2.1
def zG (μ : zMem) : Nat → Nat → Int64 := μ.2.2.2.2.2
def zsI (μ : zMem) (a i : Nat) (v : Int32) : zMem := (zN μ, zK μ, zL μ, fun b j => if b = a ∧ j = i then v else zI μ b j, zP μ, zG μ)
def zsP (μ : zMem) (a i : Nat) (v : Option Nat) : zMem := (zN μ, zK μ, zL μ, zI μ, fun b j => if b = a ∧ j = i then v else zP μ b j, zG μ)
def zsG (μ : zMem) (a i : Nat) (v : Int64) : zMem := (zN μ, zK μ, zL μ, zI μ, zP μ, fun b j => if b = a ∧ j = i then v else zG μ b j)
def zal (μ : zMem) (k n : Nat) : zMem := (zN μ + 1, fun b => if b = zN μ then k else zK μ b, fun b => if b = zN μ then n else zL μ b, fun b j => if b = zN μ then 0 else zI μ b j, fun b j => if b = zN μ then none else zP μ b j, fun b j => if b = zN μ then 0 else zG μ b j)
theorem zN_sI (μ : zMem) (a i : Nat) (v : Int32) : zN (zsI μ a i v) = zN μ := rfl
theorem zK_sI (μ : zMem) (a i : Nat) (v : Int32) : zK (zsI μ a i v) = zK μ := rfl
theorem zL_sI (μ : zMem) (a i : Nat) (v : Int32) : zL (zsI μ a i v) = zL μ := rfl
theorem zP_sI (μ : zMem) (a i : Nat) (v : Int32) : zP (zsI μ a i v) = zP μ := rfl
theorem zG_sI (μ : zMem) (a i : Nat) (v : Int32) : zG (zsI μ a i v) = zG μ := rfl
theorem zI_sI (μ : zMem) (a i : Nat) (v : Int32) (b j : Nat) : zI (zsI μ a i v) b j = if b = a ∧ j = i then v else zI μ b j := rfl
theorem zN_sP (μ : zMem) (a i : Nat) (v : Option Nat) : zN (zsP μ a i v) = zN μ := rfl
theorem zK_sP (μ : zMem) (a i : Nat) (v : Option Nat) : zK (zsP μ a i v) = zK μ := rfl
theorem zL_sP (μ : zMem) (a i : Nat) (v : Option Nat) : zL (zsP μ a i v) = zL μ := rfl
theorem zI_sP (μ : zMem) (a i : Nat) (v : Option Nat) : zI (zsP μ a i v) = zI μ := rfl
theorem zG_sP (μ : zMem) (a i : Nat) (v : Option Nat) : zG (zsP μ a i v) = zG μ := rfl
theorem zP_sP (μ : zMem) (a i : Nat) (v : Option Nat) (b j : Nat) : zP (zsP μ a i v) b j = if b = a ∧ j = i then v else zP μ b j := rfl
theorem zN_sG (μ : zMem) (a i : Nat) (v : Int64) : zN (zsG μ a i v) = zN μ := rfl
theorem zK_sG (μ : zMem) (a i : Nat) (v : Int64) : zK (zsG μ a i v) = zK μ := rfl
theorem zL_sG (μ : zMem) (a i : Nat) (v : Int64) : zL (zsG μ a i v) = zL μ := rfl
theorem zI_sG (μ : zMem) (a i : Nat) (v : Int64) : zI (zsG μ a i v) = zI μ := rfl
theorem zP_sG (μ : zMem) (a i : Nat) (v : Int64) : zP (zsG μ a i v) = zP μ := rfl
theorem zG_sG (μ : zMem) (a i : Nat) (v : Int64) (b j : Nat) : zG (zsG μ a i v) b j = if b = a ∧ j = i then v else zG μ b j := rfl
theorem zN_al (μ : zMem) (k n : Nat) : zN (zal μ k n) = zN μ + 1 := rfl
theorem zK_al (μ : zMem) (k n b : Nat) : zK (zal μ k n) b = if b = zN μ then k else zK μ b := rfl
theorem zL_al (μ : zMem) (k n b : Nat) : zL (zal μ k n) b = if b = zN μ then n else zL μ b := rfl
theorem zI_al (μ : zMem) (k n b j : Nat) : zI (zal μ k n) b j = if b = zN μ then 0 else zI μ b j := rfl
theorem zP_al (μ : zMem) (k n b j : Nat) : zP (zal μ k n) b j = if b = zN μ then none else zP μ b j := rfl
theorem zG_al (μ : zMem) (k n b j : Nat) : zG (zal μ k n) b j = if b = zN μ then 0 else zG μ b j := rfl
/-- State, class numbers, array classes -/
abbrev zZ : Type := State × va_G × (Nat → ClassId)
def zty : Nat → FieldType := fun k => match k with
  | 0 => .int
  | 1 => .int
  | 2 => .char
  | 3 => .int
  | 4 => .object RX0
  | 5 => .object RX3
  | 6 => .object RX4
  | _ => .object RX5
def ztys (cA : Nat → ClassId) : List (ClassId × FieldType) := (List.range 8).map (fun k => (cA k, zty k))
theorem ztys_at (cA : Nat → ClassId) {k : Nat} (h : k < 8) : (ztys cA)[k]? = some (cA k, zty k) := by simp [ztys, h]
def zfty : Nat → Nat → FieldType := fun c => match c with
  | 0 => tyX0
  | 1 => tyX1
  | 2 => tyX2
  | 3 => tyX3
  | 4 => tyX4
  | 5 => tyX5
  | 6 => tyX6
  | 7 => tyX7
  | 8 => tyX8
  | _ => tyX0
def znf : Nat → Nat := fun c => match c with
  | 0 => 5
  | 1 => 2
  | 2 => 6
  | 3 => 2
  | 4 => 14
  | 5 => 6
  | 6 => 9
  | 7 => 2
  | 8 => 7
  | _ => 5
def zrt : FieldType → Bool := fun t => match t with
  | .object _ => true
  | .array _ => true
  | _ => false
def zfv (ad : Nat → Nat) (ty : FieldType) (i : Int32) (p : Option Nat) : Value := if zrt ty = true then va_rf (p.map ad) else .int i
def zent (cA : Nat → ClassId) (ad : Nat → Nat) (μ : zMem) (a : Nat) : va_E :=
  if zK μ a < 3 then .inl (cA (zK μ a), zL μ a, .inl (zI μ a))
  else if zK μ a = 3 then .inl (cA 3, zL μ a, .inr (.inl (zG μ a)))
  else if zK μ a < 8 then .inl (cA (zK μ a), zL μ a, .inr (.inr (.inr (.inr (fun j => (zP μ a j).map ad)))))
  else .inr (zK μ a - 8, (List.range (znf (zK μ a - 8))).map (fun j => zfv ad (zfty (zK μ a - 8) j) (zI μ a j) (zP μ a j)))
def zws (cA : Nat → ClassId) (ad : Nat → Nat) (μ : zMem) : va_W := (List.range (zN μ)).map (fun a => (ad a, zent cA ad μ a))
theorem zws_at (cA : Nat → ClassId) (ad : Nat → Nat) (μ : zMem) {a : Nat} (h : a < zN μ) : (zws cA ad μ)[a]? = some (ad a, zent cA ad μ a) := by simp [zws, h]
theorem zws_len (cA : Nat → ClassId) (ad : Nat → Nat) (μ : zMem) : (zws cA ad μ).length = zN μ := by simp [zws]
theorem zws_set {cA : Nat → ClassId} {ad : Nat → Nat} {μ μ' : zMem} {a : Nat} {e : va_E} (hn : zN μ' = zN μ) (he : zent cA ad μ' a = e) (ho : ∀ b, b ≠ a → zent cA ad μ' b = zent cA ad μ b) : (zws cA ad μ).set a (ad a, e) = zws cA ad μ' := by
  apply List.ext_getElem?
  intro k
  rw [List.getElem?_set]
  by_cases hk : a = k
  · subst hk
    rw [if_pos rfl, zws_len]
    by_cases h : a < zN μ
    · rw [if_pos h, zws_at _ _ _ (by rw [hn]; exact h), he]
    · rw [if_neg h]
      exact (List.getElem?_eq_none (by rw [zws_len, hn]; omega)).symm
  · rw [if_neg hk]
    by_cases h : k < zN μ
    · rw [zws_at _ _ _ h, zws_at _ _ _ (by rw [hn]; exact h), ho k (fun q => hk q.symm)]
    · rw [List.getElem?_eq_none (by rw [zws_len]; omega), List.getElem?_eq_none (by rw [zws_len, hn]; omega)]
theorem zent_sI_ne (cA : Nat → ClassId) (ad : Nat → Nat) (μ : zMem) (a i : Nat) (v : Int32) (b : Nat) (h : b ≠ a) : zent cA ad (zsI μ a i v) b = zent cA ad μ b := by
  have e : (fun j => zI (zsI μ a i v) b j) = (fun j => zI μ b j) := by funext j; simp [zI_sI, h]
  simp only [zent, zK_sI, zL_sI, zP_sI, zG_sI, zI_sI, h, false_and, if_false]
  have e2 : zI (zsI μ a i v) b = zI μ b := e
  rw [e2]
theorem zent_sP_ne (cA : Nat → ClassId) (ad : Nat → Nat) (μ : zMem) (a i : Nat) (v : Option Nat) (b : Nat) (h : b ≠ a) : zent cA ad (zsP μ a i v) b = zent cA ad μ b := by
  simp only [zent, zK_sP, zL_sP, zP_sP, zG_sP, zI_sP, h, false_and, if_false]
theorem zent_sG_ne (cA : Nat → ClassId) (ad : Nat → Nat) (μ : zMem) (a i : Nat) (v : Int64) (b : Nat) (h : b ≠ a) : zent cA ad (zsG μ a i v) b = zent cA ad μ b := by
  have e : zG (zsG μ a i v) b = zG μ b := by funext j; simp [zG_sG, h]
  simp only [zent, zK_sG, zL_sG, zP_sG, zI_sG, e]
  rfl
theorem zent_i {cA : Nat → ClassId} {ad : Nat → Nat} {μ : zMem} {a k : Nat} (h : zK μ a = k) (hk : k < 3) : zent cA ad μ a = .inl (cA k, zL μ a, .inl (zI μ a)) := by
  subst h
  simp only [zent, hk, if_true]
theorem zent_g {cA : Nat → ClassId} {ad : Nat → Nat} {μ : zMem} {a : Nat} (h : zK μ a = 3) : zent cA ad μ a = .inl (cA 3, zL μ a, .inr (.inl (zG μ a))) := by
  simp only [zent, h, if_true, Nat.lt_irrefl, if_false]
theorem zent_p {cA : Nat → ClassId} {ad : Nat → Nat} {μ : zMem} {a k : Nat} (h : zK μ a = k) (h3 : 3 < k) (hk : k < 8) : zent cA ad μ a = .inl (cA k, zL μ a, .inr (.inr (.inr (.inr (fun j => (zP μ a j).map ad))))) := by
  subst h
  simp only [zent, if_neg (show ¬ zK μ a < 3 by omega), if_neg (show ¬ zK μ a = 3 by omega), if_pos hk]
theorem zent_o {cA : Nat → ClassId} {ad : Nat → Nat} {μ : zMem} {a ci : Nat} (h : zK μ a = ci + 8) : zent cA ad μ a = .inr (ci, (List.range (znf ci)).map (fun j => zfv ad (zfty ci j) (zI μ a j) (zP μ a j))) := by
  simp only [zent, h, if_neg (show ¬ ci + 8 < 3 by omega), if_neg (show ¬ ci + 8 = 3 by omega), if_neg (show ¬ ci + 8 < 8 by omega), Nat.add_sub_cancel]
theorem zfs_set_i {ad : Nat → Nat} {μ : zMem} {a ci k : Nat} {v : Int32} (ht : zrt (zfty ci k) = false) :
    ((List.range (znf ci)).map (fun j => zfv ad (zfty ci j) (zI μ a j) (zP μ a j))).set k (.int v) = (List.range (znf ci)).map (fun j => zfv ad (zfty ci j) (zI (zsI μ a k v) a j) (zP (zsI μ a k v) a j)) := by
  apply List.ext_getElem?
  intro j
  rw [List.getElem?_set]
  by_cases hj : k = j
  · subst hj
    rw [if_pos rfl, List.length_map, List.length_range]
    by_cases h : k < znf ci
    · simp [h, zfv, ht, zI_sI]
    · simp [h]
  · rw [if_neg hj]
    simp only [List.getElem?_map, zI_sI, zP_sI, true_and, if_neg (fun q : j = k => hj q.symm)]
    have hj' : ¬ j = k := fun q => hj q.symm
    by_cases h : j < znf ci
    · simp [h, hj']
    · simp [h]
theorem zfs_set_p {ad : Nat → Nat} {μ : zMem} {a ci k : Nat} {v : Option Nat} (ht : zrt (zfty ci k) = true) :
    ((List.range (znf ci)).map (fun j => zfv ad (zfty ci j) (zI μ a j) (zP μ a j))).set k (va_rf (v.map ad)) = (List.range (znf ci)).map (fun j => zfv ad (zfty ci j) (zI (zsP μ a k v) a j) (zP (zsP μ a k v) a j)) := by
  apply List.ext_getElem?
  intro j
  rw [List.getElem?_set]
  by_cases hj : k = j
  · subst hj
    rw [if_pos rfl, List.length_map, List.length_range]
    by_cases h : k < znf ci
    · simp [h, zfv, ht, zP_sP]
    · simp [h]
  · rw [if_neg hj]
    have hj' : ¬ j = k := fun q => hj q.symm
    by_cases h : j < znf ci
    · simp [h, zI_sP, zP_sP, hj']
    · simp [h]
/-! values -/
def ztv (ad : Nat → Nat) (v : Value) : Value := match v with
  | .ref k => .ref (ad k)
  | w => w
def zok (n : Nat) (v : Value) : Prop := ∀ k, v = .ref k → k < n
theorem ztv_int (ad : Nat → Nat) (x : Int32) : ztv ad (.int x) = .int x := rfl
theorem ztv_long (ad : Nat → Nat) (x : Int64) : ztv ad (.long x) = .long x := rfl
theorem ztv_ref (ad : Nat → Nat) (x : Nat) : ztv ad (.ref x) = .ref (ad x) := rfl
theorem ztv_null (ad : Nat → Nat) : ztv ad .null = .null := rfl
theorem ztv_cat (ad : Nat → Nat) (v : Value) : (ztv ad v).category = v.category := by cases v <;> rfl
theorem ztv_rf (ad : Nat → Nat) (o : Option Nat) : ztv ad (va_rf o) = va_rf (o.map ad) := by cases o <;> rfl
theorem ztv_congr {ad ad' : Nat → Nat} {n : Nat} {v : Value} (h : zok n v) (he : ∀ a, a < n → ad' a = ad a) : ztv ad' v = ztv ad v := by
  cases v with
  | ref k => show Value.ref _ = Value.ref _; rw [he k (h k rfl)]
  | _ => rfl
theorem zok_int (n : Nat) (x : Int32) : zok n (.int x) := fun _ h => by cases h
theorem zok_long (n : Nat) (x : Int64) : zok n (.long x) := fun _ h => by cases h
theorem zok_null (n : Nat) : zok n .null := fun _ h => by cases h
theorem zok_ref {n a : Nat} (h : a < n) : zok n (.ref a) := fun _ q => by cases q; exact h
theorem zok_mono {n m : Nat} {v : Value} (h : zok n v) (hm : n ≤ m) : zok m v := fun k q => Nat.lt_of_lt_of_le (h k q) hm
theorem zok_lt {n a : Nat} (h : zok n (.ref a)) : a < n := h a rfl
def zoks (n : Nat) (st : List Value) : Prop := ∀ v ∈ st, zok n v
theorem zoks_nil (n : Nat) : zoks n [] := fun _ h => nomatch h
theorem zoks_cons {n : Nat} {v : Value} {st : List Value} (h : zok n v) (hs : zoks n st) : zoks n (v :: st) := fun w hw => (List.mem_cons.mp hw).elim (fun e => by rw [e]; exact h) (hs w)
theorem zoks_hd {n : Nat} {v : Value} {st : List Value} (h : zoks n (v :: st)) : zok n v := h v List.mem_cons_self
theorem zoks_tl {n : Nat} {v : Value} {st : List Value} (h : zoks n (v :: st)) : zoks n st := fun w hw => h w (List.mem_cons_of_mem _ hw)
theorem zoks_mono {n m : Nat} {st : List Value} (h : zoks n st) (hm : n ≤ m) : zoks m st := fun v hv => zok_mono (h v hv) hm
theorem ztv_congrs {ad ad' : Nat → Nat} {n : Nat} {st : List Value} (h : zoks n st) (he : ∀ a, a < n → ad' a = ad a) : st.map (ztv ad') = st.map (ztv ad) := List.map_congr_left fun v hv => ztv_congr (h v hv) he
/-! locals: by their places; none: not said -/
def zLo (ad : Nat → Nat) (n : Nat) (L : List (Option Value)) (ls : Array Slot) : Prop := ls.size = L.length ∧ lv_wf ls ∧ ∀ (i : Nat) (v : Value), L[i]? = some (some v) → ls[i]? = some (.val (ztv ad v)) ∧ zok n v
theorem zLo_mono {ad ad' : Nat → Nat} {n m : Nat} {L : List (Option Value)} {ls : Array Slot} (h : zLo ad n L ls) (he : ∀ a, a < n → ad' a = ad a) (hm : n ≤ m) : zLo ad' m L ls :=
  ⟨h.1, h.2.1, fun i v hv => ⟨by rw [ztv_congr (h.2.2 i v hv).2 he]; exact (h.2.2 i v hv).1, zok_mono (h.2.2 i v hv).2 hm⟩⟩
def zst1 (L : List (Option Value)) (i : Nat) (v : Value) : List (Option Value) := match i with
  | 0 => L.set 0 (some v)
  | k + 1 => match L[k]? with
    | some (some (.long _)) => (L.set k none).set (k + 1) (some v)
    | some (some (.double _)) => (L.set k none).set (k + 1) (some v)
    | _ => L.set (k + 1) (some v)
def zst2 (L : List (Option Value)) (i : Nat) (v : Value) : List (Option Value) := (zst1 L i v).set (i + 1) none
theorem zst1_len (L : List (Option Value)) (i : Nat) (v : Value) : (zst1 L i v).length = L.length := by
  unfold zst1
  split
  · simp
  · split <;> simp
theorem zst1_at {L : List (Option Value)} {i j : Nat} {v w : Value} (h : (zst1 L i v)[j]? = some (some w)) : (j = i ∧ w = v) ∨ (j ≠ i ∧ L[j]? = some (some w) ∧ ¬ (j + 1 = i ∧ w.category = 2)) := by
  unfold zst1 at h
  split at h
  · rw [List.getElem?_set] at h
    by_cases hj : 0 = j
    · rw [if_pos hj] at h
      split at h
      · left; exact ⟨hj.symm, by simpa using h.symm⟩
      · cases h
    · rw [if_neg hj] at h
      right; exact ⟨fun q => hj q.symm, h, by omega⟩
  · rename_i k
    by_cases hj : j = k + 1
    · subst hj
      left
      refine ⟨rfl, ?_⟩
      split at h <;> (rw [List.getElem?_set_self'] at h; cases hq : (L[k + 1]?) <;> simp_all)
    · right
      refine ⟨hj, ?_⟩
      split at h
      · rw [List.getElem?_set_ne (by omega)] at h
        by_cases hk : k = j
        · subst hk
          rw [List.getElem?_set_self'] at h
          cases hq : (L[k]?) <;> simp_all
        · rw [List.getElem?_set_ne hk] at h
          exact ⟨h, fun q => hk (by omega)⟩
      · rw [List.getElem?_set_ne (by omega)] at h
        by_cases hk : k = j
        · subst hk
          rw [List.getElem?_set_self'] at h
          cases hq : (L[k]?) <;> simp_all
        · rw [List.getElem?_set_ne hk] at h
          exact ⟨h, fun q => hk (by omega)⟩
      · rename_i h1 h2
        rw [List.getElem?_set_ne (by omega)] at h
        refine ⟨h, fun q => ?_⟩
        obtain ⟨q1, q2⟩ := q
        have : j = k := by omega
        subst this
        cases w with
        | long x => exact h1 x h
        | double x => exact h2 x h
        | _ => cases q2
def zlv (ad : Nat → Nat) (L : List (Option Value)) : List (Nat × Value) := (List.range L.length).filterMap (fun i => match L[i]? with
  | some (some v) => some (i, ztv ad v)
  | _ => none)
theorem zlv_mem {ad : Nat → Nat} {L : List (Option Value)} {i : Nat} {v : Value} (h : L[i]? = some (some v)) : (i, ztv ad v) ∈ zlv ad L := by
  refine List.mem_filterMap.mpr ⟨i, List.mem_range.mpr (List.getElem?_eq_some_iff.mp h).1, ?_⟩
  rw [h]
theorem zlv_mem' {ad : Nat → Nat} {L : List (Option Value)} {q : Nat × Value} (h : q ∈ zlv ad L) : ∃ v, L[q.1]? = some (some v) ∧ q.2 = ztv ad v := by
  obtain ⟨i, hi, h2⟩ := List.mem_filterMap.mp h
  split at h2
  · rename_i v hv
    cases h2
    exact ⟨v, hv, rfl⟩
  · cases h2
theorem zLo_has {ad : Nat → Nat} {n : Nat} {L : List (Option Value)} {ls : Array Slot} (h : zLo ad n L ls) : lv_has ls L.length (zlv ad L) := by
  refine ⟨h.1, h.2.1, fun q hq => ?_⟩
  obtain ⟨v, hv, he⟩ := zlv_mem' hq
  rw [he]
  exact (h.2.2 q.1 v hv).1
theorem zLo_st1 {ad : Nat → Nat} {n i : Nat} {L : List (Option Value)} {ls ls' : Array Slot} {v : Value} (h : zLo ad n L ls) (hv : zok n v)
    (h' : lv_has ls' L.length ((i, ztv ad v) :: (zlv ad L).filter (fun q => !(q.1 == i) && !(q.1 + 1 == i && q.2.category == 2)))) : zLo ad n (zst1 L i v) ls' := by
  refine ⟨by rw [h'.1, zst1_len], h'.2.1, fun j w hw => ?_⟩
  rcases zst1_at hw with ⟨rfl, rfl⟩ | ⟨h1, h2, h3⟩
  · exact ⟨h'.2.2 _ List.mem_cons_self, hv⟩
  · refine ⟨h'.2.2 (j, ztv ad w) (List.mem_cons_of_mem _ (List.mem_filter.mpr ⟨zlv_mem h2, ?_⟩)), (h.2.2 j w h2).2⟩
    simp only [ztv_cat, Bool.and_eq_true, Bool.not_eq_true', beq_eq_false_iff_ne, Bool.and_eq_false_iff, ne_eq]
    refine ⟨h1, ?_⟩
    by_cases hq : j + 1 = i
    · exact Or.inr fun q => h3 ⟨hq, q⟩
    · exact Or.inl hq
theorem zLo_st2 {ad : Nat → Nat} {n i : Nat} {L : List (Option Value)} {ls ls' : Array Slot} {v : Value} (h : zLo ad n L ls) (hv : zok n v)
    (h' : lv_has ls' L.length ((i, ztv ad v) :: (zlv ad L).filter (fun q => !(q.1 == i) && (!(q.1 == i + 1) && !(q.1 + 1 == i && q.2.category == 2))))) : zLo ad n (zst2 L i v) ls' := by
  refine ⟨by rw [h'.1]; simp [zst2, zst1_len], h'.2.1, fun j w hw => ?_⟩
  unfold zst2 at hw
  rw [List.getElem?_set] at hw
  by_cases hj : i + 1 = j
  · rw [if_pos hj] at hw
    split at hw <;> cases hw
  · rw [if_neg hj] at hw
    rcases zst1_at hw with ⟨rfl, rfl⟩ | ⟨h1, h2, h3⟩
    · exact ⟨h'.2.2 _ List.mem_cons_self, hv⟩
    · refine ⟨h'.2.2 (j, ztv ad w) (List.mem_cons_of_mem _ (List.mem_filter.mpr ⟨zlv_mem h2, ?_⟩)), (h.2.2 j w h2).2⟩
      simp only [ztv_cat, Bool.and_eq_true, Bool.not_eq_true', beq_eq_false_iff_ne, Bool.and_eq_false_iff, ne_eq]
      refine ⟨h1, fun q => hj q.symm, ?_⟩
      by_cases hq : j + 1 = i
      · exact Or.inr fun q => h3 ⟨hq, q⟩
      · exact Or.inl hq
/-- fewer are said -/
def zsub : List (Option Value) → List (Option Value) → Prop := fun L L' => L'.length = L.length ∧ ∀ (i : Nat) (v : Value), L'[i]? = some (some v) → L[i]? = some (some v)
theorem zsub_nil : zsub [] [] := ⟨rfl, fun _ _ h => h⟩
theorem zsub_keep {v : Option Value} {L L' : List (Option Value)} (h : zsub L L') : zsub (v :: L) (v :: L') := ⟨by simp [h.1], fun i w hw => by
  cases i with
  | zero => exact hw
  | succ i => exact h.2 i w hw⟩
theorem zsub_drop {v : Option Value} {L L' : List (Option Value)} (h : zsub L L') : zsub (v :: L) (none :: L') := ⟨by simp [h.1], fun i w hw => by
  cases i with
  | zero => cases hw
  | succ i => exact h.2 i w hw⟩
theorem zsub_refl (L : List (Option Value)) : zsub L L := ⟨rfl, fun _ _ h => h⟩
theorem zLo_sub {ad : Nat → Nat} {n : Nat} {L L' : List (Option Value)} {ls : Array Slot} (h : zLo ad n L ls) (hs : zsub L L') : zLo ad n L' ls := ⟨by rw [h.1, hs.1], h.2.1, fun i v hv => h.2.2 i v (hs.2 i v hv)⟩

