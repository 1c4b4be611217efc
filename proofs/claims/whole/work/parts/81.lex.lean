-- tokens of a tape (t: its bytes, n: how many): where they begin and end, what they are
def scn (pr : Nat → Bool) : Nat → Nat → Nat
  | 0, p => p
  | f + 1, p => if pr p = true then scn pr f (p + 1) else p
theorem scn_bd (pr : Nat → Bool) : ∀ f p, p ≤ scn pr f p ∧ scn pr f p ≤ p + f
  | 0, p => ⟨Nat.le_refl _, Nat.le_refl _⟩
  | f + 1, p => by
    rw [scn]
    have := scn_bd pr f (p + 1)
    split <;> omega
theorem scn_all (pr : Nat → Bool) : ∀ f p j, p ≤ j → j < scn pr f p → pr j = true
  | 0, p, j, h1, h2 => by rw [scn] at h2; omega
  | f + 1, p, j, h1, h2 => by
    rw [scn] at h2
    by_cases q : pr p = true
    · rw [if_pos q] at h2
      by_cases e : j = p
      · subst e; exact q
      · exact scn_all pr f (p + 1) j (by omega) h2
    · rw [if_neg q] at h2; omega
theorem scn_stop (pr : Nat → Bool) : ∀ f p, scn pr f p = p + f ∨ ¬ pr (scn pr f p) = true
  | 0, p => Or.inl rfl
  | f + 1, p => by
    rw [scn]
    by_cases q : pr p = true
    · rw [if_pos q]
      rcases scn_stop pr f (p + 1) with h | h
      · left; omega
      · right; exact h
    · rw [if_neg q]; right; exact q
theorem scn_y {pr : Nat → Bool} {n p : Nat} (hp : p < n) (h : pr p = true) : scn pr (n - p) p = scn pr (n - (p + 1)) (p + 1) := by
  rw [show n - p = (n - (p + 1)) + 1 by omega, scn, if_pos h]
theorem scn_n {pr : Nat → Bool} {n p : Nat} (h : ¬ pr p = true) : scn pr (n - p) p = p := by
  cases n - p with
  | zero => rfl
  | succ f => rw [scn, if_neg h]
theorem scn_e {pr : Nat → Bool} {n p : Nat} (h : n ≤ p) : scn pr (n - p) p = p := by
  rw [show n - p = 0 by omega]; rfl
def isBl (t : Nat → Nat) (i : Nat) : Bool := decide (t i = 32)
def isSm (t : Nat → Nat) (i : Nat) : Bool := decide (97 ≤ t i ∧ t i ≤ 122)
def isDg (t : Nat → Nat) (i : Nat) : Bool := decide (48 ≤ t i ∧ t i ≤ 57)
def skp (t : Nat → Nat) (n p : Nat) : Nat := scn (isBl t) (n - p) p
def tkE (t : Nat → Nat) (n p : Nat) : Nat := if n ≤ skp t n p then skp t n p else if isSm t (skp t n p) = true then scn (isSm t) (n - skp t n p) (skp t n p) else if isDg t (skp t n p) = true then scn (isDg t) (n - skp t n p) (skp t n p) else skp t n p + 1
def posT (t : Nat → Nat) (n : Nat) : Nat → Nat
  | 0 => 0
  | i + 1 => tkE t n (posT t n i)
def frT (t : Nat → Nat) (n i : Nat) : Nat := skp t n (posT t n i)
def wlr (t : Nat → Nat) (f : Nat) : Nat → List Nat
  | 0 => []
  | k + 1 => t (f + k) :: wlr t f k
def dvR (t : Nat → Nat) (f : Nat) : Nat → Nat
  | 0 => 0
  | k + 1 => if 1000000 < dvR t f k then dvR t f k else dvR t f k * 10 + (t (f + k) - 48)
def dvX (t : Nat → Nat) (f : Nat) : Nat → Nat
  | 0 => 0
  | k + 1 => (if dvX t f k * 10 + (t (f + k) - 48) ≤ 10001 then dvX t f k * 10 + (t (f + k) - 48) else 10001)
def wcd : List Nat → Nat
  | [] => 0
  | x :: l => wcd l * 32 + (x - 96)
/-- the kind of a word, by its letters, the last first -/
def wkd (l : List Nat) : Int :=
  if l = [115, 119, 111, 104, 115] then 257 else if l = [102, 105] then 258 else if l = [114, 111] then 259 else if l = [100, 110, 97] then 260 else if l = [116, 111, 110] then 261
  else if l = [121, 97, 100] then 301 else if l = [100, 110, 97, 104] then 302 else if l = [115, 107, 114, 97, 109] then 303 else if l = [110, 114, 117, 116] then 304 else if l = [116, 101, 115, 102, 102, 111] then 305 else 256
def kdT (t : Nat → Nat) (n i : Nat) : Int := if n ≤ frT t n i then -1 else if isSm t (frT t n i) = true then wkd (wlr t (frT t n i) (posT t n (i + 1) - frT t n i)) else if isDg t (frT t n i) = true then 300 else (t (frT t n i) : Int)
def nmT (t : Nat → Nat) (n i : Nat) : Nat := if n ≤ frT t n i then 0 else if isSm t (frT t n i) = true then 0 else if isDg t (frT t n i) = true then dvX t (frT t n i) (posT t n (i + 1) - frT t n i) else 0
def srtT (t : Nat → Nat) (n i : Nat) : Nat := if n ≤ frT t n i then 0 else if isSm t (frT t n i) = true then 1 else if isDg t (frT t n i) = true then 2 else 3
def wrtT (t : Nat → Nat) (n i : Nat) : Int := if n ≤ frT t n i then 0 else if isSm t (frT t n i) = true then (if posT t n (i + 1) - frT t n i ≤ 10 then (wcd (wlr t (frT t n i) (posT t n (i + 1) - frT t n i)) : Int) else -1) else if isDg t (frT t n i) = true then (dvR t (frT t n i) (posT t n (i + 1) - frT t n i) : Int) else (t (frT t n i) : Int)
def tkN (t : Nat → Nat) (n : Nat) : Nat := scn (fun i => decide (frT t n i < n)) (n + 1) 0
section LEX
variable {t : Nat → Nat} {n : Nat}
theorem skp_bd {p : Nat} (h : p ≤ n) : p ≤ skp t n p ∧ skp t n p ≤ n := by
  have := scn_bd (isBl t) (n - p) p
  unfold skp
  omega
theorem tkE_bd {p : Nat} (h : p ≤ n) : skp t n p ≤ tkE t n p ∧ tkE t n p ≤ n ∧ (skp t n p < n → skp t n p < tkE t n p) := by
  obtain ⟨h1, h2⟩ := skp_bd (t := t) h
  unfold tkE
  generalize skp t n p = f at h1 h2
  by_cases q : n ≤ f
  · rw [if_pos q]; omega
  · rw [if_neg q]
    by_cases q1 : isSm t f = true
    · rw [if_pos q1]
      have e := scn_y (pr := isSm t) (n := n) (p := f) (by omega) q1
      have b := scn_bd (isSm t) (n - (f + 1)) (f + 1)
      rw [e]; omega
    · rw [if_neg q1]
      by_cases q2 : isDg t f = true
      · rw [if_pos q2]
        have e := scn_y (pr := isDg t) (n := n) (p := f) (by omega) q2
        have b := scn_bd (isDg t) (n - (f + 1)) (f + 1)
        rw [e]; omega
      · rw [if_neg q2]; omega
theorem posT_le : ∀ i, posT t n i ≤ n
  | 0 => Nat.zero_le _
  | i + 1 => (tkE_bd (posT_le i)).2.1
theorem frT_bd (i : Nat) : posT t n i ≤ frT t n i ∧ frT t n i ≤ n := skp_bd (posT_le i)
theorem posT_s (i : Nat) : frT t n i ≤ posT t n (i + 1) ∧ (frT t n i < n → frT t n i < posT t n (i + 1)) := ⟨(tkE_bd (posT_le i)).1, (tkE_bd (posT_le i)).2.2⟩
theorem tkN_lt {i : Nat} (h : i < tkN t n) : frT t n i < n := of_decide_eq_true (scn_all _ _ _ i (Nat.zero_le _) h)
theorem posT_ge : ∀ i, i ≤ tkN t n → i ≤ posT t n i
  | 0, _ => Nat.zero_le _
  | i + 1, h => by
    have h1 := posT_ge i (by omega)
    have h2 := tkN_lt (show i < tkN t n by omega)
    have h3 := (posT_s (t := t) (n := n) i).2 h2
    have h4 := (frT_bd (t := t) (n := n) i).1
    omega
theorem tkN_le : tkN t n ≤ n := Nat.le_trans (posT_ge _ (Nat.le_refl _)) (posT_le _)
theorem tkN_end : frT t n (tkN t n) = n := by
  have hb := (frT_bd (t := t) (n := n) (tkN t n)).2
  have hl := tkN_le (t := t) (n := n)
  rcases scn_stop (fun i => decide (frT t n i < n)) (n + 1) 0 with h | h
  · have h2 : tkN t n = 0 + (n + 1) := h
    omega
  · have h2 : ¬ decide (frT t n (tkN t n) < n) = true := h
    rw [decide_eq_true_eq] at h2
    omega
theorem wkd_bd (l : List Nat) : 256 ≤ wkd l ∧ wkd l ≤ 305 ∧ wkd l ≠ 300 := by
  unfold wkd
  repeat' split
  all_goals decide
theorem kdT_end {i : Nat} (h : frT t n i = n) : kdT t n i = -1 := by unfold kdT; rw [if_pos (by omega)]
theorem kdT_pos {i : Nat} (h : frT t n i < n) : 0 ≤ kdT t n i := by
  unfold kdT
  rw [if_neg (by omega)]
  have := (wkd_bd (wlr t (frT t n i) (posT t n (i + 1) - frT t n i))).1
  split
  · omega
  · split <;> omega
theorem kdT_le (ht : ∀ i, i < n → t i ≤ 255) (i : Nat) : kdT t n i ≤ 305 := by
  unfold kdT
  by_cases q : n ≤ frT t n i
  · rw [if_pos q]; omega
  · rw [if_neg q]
    have := (wkd_bd (wlr t (frT t n i) (posT t n (i + 1) - frT t n i))).2.1
    have := ht (frT t n i) (by omega)
    split
    · omega
    · split <;> omega
theorem EndT.of (hn : n ≤ 400) : EndT (kdT t n) (tkN t n) := ⟨Nat.le_trans tkN_le hn, kdT_end tkN_end, fun i hi h => by have := kdT_pos (t := t) (tkN_lt hi); omega⟩
theorem dvX_R {f : Nat} : ∀ k, dvX t f k = (if dvR t f k ≤ 10001 then dvR t f k else 10001)
  | 0 => rfl
  | k + 1 => by
    rw [dvX, dvR, dvX_R k]
    by_cases q : 1000000 < dvR t f k
    · rw [if_pos q]; split <;> split <;> (try split) <;> omega
    · rw [if_neg q]; split <;> split <;> (try split) <;> omega
theorem dvR_le {f : Nat} (h : ∀ j, t j ≤ 255) : ∀ k, dvR t f k ≤ 20000000
  | 0 => Nat.zero_le _
  | k + 1 => by
    have := dvR_le (f := f) h k
    have := h (f + k)
    rw [dvR]
    split <;> omega
theorem wcd_inj : ∀ l l' : List Nat, (∀ x ∈ l, 97 ≤ x ∧ x ≤ 122) → (∀ x ∈ l', 97 ≤ x ∧ x ≤ 122) → wcd l = wcd l' → l = l'
  | [], [], _, _, _ => rfl
  | [], y :: m, _, h2, e => by
    have := h2 y List.mem_cons_self
    rw [wcd, wcd] at e; omega
  | x :: l, [], h1, _, e => by
    have := h1 x List.mem_cons_self
    rw [wcd, wcd] at e; omega
  | x :: l, y :: m, h1, h2, e => by
    have a := h1 x List.mem_cons_self
    have b := h2 y List.mem_cons_self
    rw [wcd, wcd] at e
    have e1 : wcd l = wcd m := by omega
    have e2 : x = y := by omega
    rw [wcd_inj l m (fun z hz => h1 z (List.mem_cons_of_mem _ hz)) (fun z hz => h2 z (List.mem_cons_of_mem _ hz)) e1, e2]
theorem wlr_len {f : Nat} : ∀ k, (wlr t f k).length = k
  | 0 => rfl
  | k + 1 => by rw [wlr, List.length_cons, wlr_len k]
theorem wlr_mem {f x : Nat} : ∀ k, x ∈ wlr t f k → ∃ j, j < k ∧ t (f + j) = x
  | 0, h => by cases h
  | k + 1, h => by
    rw [wlr] at h
    rcases List.mem_cons.mp h with h | h
    · exact ⟨k, by omega, h.symm⟩
    · obtain ⟨j, h1, h2⟩ := wlr_mem k h
      exact ⟨j, by omega, h2⟩
theorem posT_word {i : Nat} (h : frT t n i < n) (hs : isSm t (frT t n i) = true) : posT t n (i + 1) = scn (isSm t) (n - frT t n i) (frT t n i) := by
  show tkE t n (posT t n i) = _
  unfold tkE
  rw [if_neg (show ¬ n ≤ skp t n (posT t n i) from Nat.not_le.mpr h), if_pos (show isSm t (skp t n (posT t n i)) = true from hs)]
  rfl
theorem posT_num {i : Nat} (h : frT t n i < n) (hs : ¬ isSm t (frT t n i) = true) (hd : isDg t (frT t n i) = true) : posT t n (i + 1) = scn (isDg t) (n - frT t n i) (frT t n i) := by
  show tkE t n (posT t n i) = _
  unfold tkE
  rw [if_neg (show ¬ n ≤ skp t n (posT t n i) from Nat.not_le.mpr h), if_neg (show ¬ isSm t (skp t n (posT t n i)) = true from hs), if_pos (show isDg t (skp t n (posT t n i)) = true from hd)]
  rfl
theorem posT_sign {i : Nat} (h : frT t n i < n) (hs : ¬ isSm t (frT t n i) = true) (hd : ¬ isDg t (frT t n i) = true) : posT t n (i + 1) = frT t n i + 1 := by
  show tkE t n (posT t n i) = _
  unfold tkE
  rw [if_neg (show ¬ n ≤ skp t n (posT t n i) from Nat.not_le.mpr h), if_neg (show ¬ isSm t (skp t n (posT t n i)) = true from hs), if_neg (show ¬ isDg t (skp t n (posT t n i)) = true from hd)]
  rfl
theorem posT_end {i : Nat} (h : frT t n i = n) : posT t n (i + 1) = n := by
  show tkE t n (posT t n i) = _
  unfold tkE
  rw [if_pos (show n ≤ skp t n (posT t n i) from Nat.le_of_eq h.symm)]
  exact h
theorem word_letters {i : Nat} (h : frT t n i < n) (hs : isSm t (frT t n i) = true) : ∀ x ∈ wlr t (frT t n i) (posT t n (i + 1) - frT t n i), 97 ≤ x ∧ x ≤ 122 := by
  intro x hx
  obtain ⟨j, h1, h2⟩ := wlr_mem _ hx
  rw [posT_word h hs] at h1
  have := of_decide_eq_true (scn_all (isSm t) (n - frT t n i) (frT t n i) (frT t n i + j) (by omega) (by omega))
  omega
/-- a sign, by the reference's numbers -/
theorem sign_iff {i : Nat} {c : Nat} (hc : c ≤ 255) : (srtT t n i = 3 ∧ wrtT t n i = (c : Int)) ↔ kdT t n i = (c : Int) := by
  unfold srtT wrtT kdT
  by_cases q : n ≤ frT t n i
  · rw [if_pos q, if_pos q, if_pos q]; omega
  · rw [if_neg q, if_neg q, if_neg q]
    by_cases q1 : isSm t (frT t n i) = true
    · rw [if_pos q1, if_pos q1, if_pos q1]
      have := (wkd_bd (wlr t (frT t n i) (posT t n (i + 1) - frT t n i))).1
      omega
    · rw [if_neg q1, if_neg q1, if_neg q1]
      by_cases q2 : isDg t (frT t n i) = true
      · rw [if_pos q2, if_pos q2, if_pos q2]; omega
      · rw [if_neg q2, if_neg q2, if_neg q2]; omega
/-- a word, by the reference's numbers -/
theorem word_iff {i w : Nat} {K : Int} {l : List Nat} (hK : K ≠ 300 ∧ K ≠ 256 ∧ 256 < K) (hl : ∀ x ∈ l, 97 ≤ x ∧ x ≤ 122) (h10 : l.length ≤ 10) (hw : wcd l = w) (hk : wkd l = K) (hu : ∀ m, wkd m = K → m = l) (ht : ∀ i, i < n → t i ≤ 255) : (srtT t n i = 1 ∧ wrtT t n i = (w : Int)) ↔ kdT t n i = K := by
  unfold srtT wrtT kdT
  by_cases q : n ≤ frT t n i
  · rw [if_pos q, if_pos q, if_pos q]; omega
  · rw [if_neg q, if_neg q, if_neg q]
    by_cases q1 : isSm t (frT t n i) = true
    · rw [if_pos q1, if_pos q1, if_pos q1]
      constructor
      · rintro ⟨-, h⟩
        by_cases q2 : posT t n (i + 1) - frT t n i ≤ 10
        · rw [if_pos q2] at h
          have h2 : wcd (wlr t (frT t n i) (posT t n (i + 1) - frT t n i)) = wcd l := by omega
          rw [wcd_inj _ l (word_letters (by omega) q1) hl h2]
          exact hk
        · rw [if_neg q2] at h; omega
      · intro h
        have e := hu _ h
        have e2 := wlr_len (t := t) (f := frT t n i) (posT t n (i + 1) - frT t n i)
        rw [e] at e2 ⊢
        rw [if_pos (by omega), hw]
        exact ⟨rfl, rfl⟩
    · rw [if_neg q1, if_neg q1, if_neg q1]
      have := ht (frT t n i) (by omega)
      by_cases q2 : isDg t (frT t n i) = true
      · rw [if_pos q2, if_pos q2, if_pos q2]; omega
      · rw [if_neg q2, if_neg q2, if_neg q2]; omega
theorem dig_iff {i : Nat} (ht : ∀ i, i < n → t i ≤ 255) : (srtT t n i = 2 ∧ wrtT t n i ≤ 10000) ↔ (kdT t n i = 300 ∧ nmT t n i ≤ 10000) := by
  unfold srtT wrtT kdT nmT
  by_cases q : n ≤ frT t n i
  · rw [if_pos q, if_pos q, if_pos q]; omega
  · rw [if_neg q, if_neg q, if_neg q, if_neg q]
    have := ht (frT t n i) (by omega)
    by_cases q1 : isSm t (frT t n i) = true
    · rw [if_pos q1, if_pos q1, if_pos q1, if_pos q1]
      have := (wkd_bd (wlr t (frT t n i) (posT t n (i + 1) - frT t n i))).2.2
      omega
    · rw [if_neg q1, if_neg q1, if_neg q1, if_neg q1]
      by_cases q2 : isDg t (frT t n i) = true
      · rw [if_pos q2, if_pos q2, if_pos q2, if_pos q2, dvX_R]
        split <;> omega
      · rw [if_neg q2, if_neg q2, if_neg q2]; omega
theorem dig_val {i : Nat} (h : kdT t n i = 300) (h2 : nmT t n i ≤ 10000) (ht : ∀ i, i < n → t i ≤ 255) : wrtT t n i = (nmT t n i : Int) := by
  unfold kdT at h
  unfold nmT at h2
  unfold wrtT nmT
  by_cases q : n ≤ frT t n i
  · rw [if_pos q] at h; omega
  · rw [if_neg q] at h h2 ⊢
    rw [if_neg q]
    have := ht (frT t n i) (by omega)
    by_cases q1 : isSm t (frT t n i) = true
    · rw [if_pos q1] at h
      have := (wkd_bd (wlr t (frT t n i) (posT t n (i + 1) - frT t n i))).2.2
      omega
    · rw [if_neg q1] at h h2 ⊢
      rw [if_neg q1]
      by_cases q2 : isDg t (frT t n i) = true
      · rw [if_pos q2] at h2 ⊢
        rw [if_pos q2]
        rw [dvX_R] at h2 ⊢
        split at h2 <;> split <;> omega
      · rw [if_neg q2] at h; omega
theorem nm_other {i : Nat} (h : kdT t n i ≠ 300) : nmT t n i = 0 := by
  unfold kdT at h
  unfold nmT
  by_cases q : n ≤ frT t n i
  · rw [if_pos q]
  · rw [if_neg q] at h ⊢
    by_cases q1 : isSm t (frT t n i) = true
    · rw [if_pos q1]
    · rw [if_neg q1] at h ⊢
      by_cases q2 : isDg t (frT t n i) = true
      · rw [if_pos q2] at h; exact absurd rfl h
      · rw [if_neg q2]
end LEX
theorem wkd_257 : ∀ m, wkd m = 257 → m = [115, 119, 111, 104, 115] := by
  intro m h
  unfold wkd at h
  repeat' split at h
  all_goals first | assumption | (exact absurd h (by decide))
theorem wd_257 {t : Nat → Nat} {n i : Nat} (ht : ∀ i, i < n → t i ≤ 255) : (srtT t n i = 1 ∧ wrtT t n i = (20201203 : Int)) ↔ kdT t n i = 257 := word_iff (w := 20201203) (by decide) (l := [115, 119, 111, 104, 115]) (by decide) (by decide) rfl rfl wkd_257 ht
theorem wkd_258 : ∀ m, wkd m = 258 → m = [102, 105] := by
  intro m h
  unfold wkd at h
  repeat' split at h
  all_goals first | assumption | (exact absurd h (by decide))
theorem wd_258 {t : Nat → Nat} {n i : Nat} (ht : ∀ i, i < n → t i ≤ 255) : (srtT t n i = 1 ∧ wrtT t n i = (294 : Int)) ↔ kdT t n i = 258 := word_iff (w := 294) (by decide) (l := [102, 105]) (by decide) (by decide) rfl rfl wkd_258 ht
theorem wkd_259 : ∀ m, wkd m = 259 → m = [114, 111] := by
  intro m h
  unfold wkd at h
  repeat' split at h
  all_goals first | assumption | (exact absurd h (by decide))
theorem wd_259 {t : Nat → Nat} {n i : Nat} (ht : ∀ i, i < n → t i ≤ 255) : (srtT t n i = 1 ∧ wrtT t n i = (498 : Int)) ↔ kdT t n i = 259 := word_iff (w := 498) (by decide) (l := [114, 111]) (by decide) (by decide) rfl rfl wkd_259 ht
theorem wkd_260 : ∀ m, wkd m = 260 → m = [100, 110, 97] := by
  intro m h
  unfold wkd at h
  repeat' split at h
  all_goals first | assumption | (exact absurd h (by decide))
theorem wd_260 {t : Nat → Nat} {n i : Nat} (ht : ∀ i, i < n → t i ≤ 255) : (srtT t n i = 1 ∧ wrtT t n i = (1476 : Int)) ↔ kdT t n i = 260 := word_iff (w := 1476) (by decide) (l := [100, 110, 97]) (by decide) (by decide) rfl rfl wkd_260 ht
theorem wkd_261 : ∀ m, wkd m = 261 → m = [116, 111, 110] := by
  intro m h
  unfold wkd at h
  repeat' split at h
  all_goals first | assumption | (exact absurd h (by decide))
theorem wd_261 {t : Nat → Nat} {n i : Nat} (ht : ∀ i, i < n → t i ≤ 255) : (srtT t n i = 1 ∧ wrtT t n i = (14836 : Int)) ↔ kdT t n i = 261 := word_iff (w := 14836) (by decide) (l := [116, 111, 110]) (by decide) (by decide) rfl rfl wkd_261 ht
theorem wkd_301 : ∀ m, wkd m = 301 → m = [121, 97, 100] := by
  intro m h
  unfold wkd at h
  repeat' split at h
  all_goals first | assumption | (exact absurd h (by decide))
theorem wd_301 {t : Nat → Nat} {n i : Nat} (ht : ∀ i, i < n → t i ≤ 255) : (srtT t n i = 1 ∧ wrtT t n i = (4153 : Int)) ↔ kdT t n i = 301 := word_iff (w := 4153) (by decide) (l := [121, 97, 100]) (by decide) (by decide) rfl rfl wkd_301 ht
theorem wkd_302 : ∀ m, wkd m = 302 → m = [100, 110, 97, 104] := by
  intro m h
  unfold wkd at h
  repeat' split at h
  all_goals first | assumption | (exact absurd h (by decide))
theorem wd_302 {t : Nat → Nat} {n i : Nat} (ht : ∀ i, i < n → t i ≤ 255) : (srtT t n i = 1 ∧ wrtT t n i = (263620 : Int)) ↔ kdT t n i = 302 := word_iff (w := 263620) (by decide) (l := [100, 110, 97, 104]) (by decide) (by decide) rfl rfl wkd_302 ht
theorem wkd_303 : ∀ m, wkd m = 303 → m = [115, 107, 114, 97, 109] := by
  intro m h
  unfold wkd at h
  repeat' split at h
  all_goals first | assumption | (exact absurd h (by decide))
theorem wd_303 {t : Nat → Nat} {n i : Nat} (ht : ∀ i, i < n → t i ≤ 255) : (srtT t n i = 1 ∧ wrtT t n i = (13683059 : Int)) ↔ kdT t n i = 303 := word_iff (w := 13683059) (by decide) (l := [115, 107, 114, 97, 109]) (by decide) (by decide) rfl rfl wkd_303 ht
theorem wkd_304 : ∀ m, wkd m = 304 → m = [110, 114, 117, 116] := by
  intro m h
  unfold wkd at h
  repeat' split at h
  all_goals first | assumption | (exact absurd h (by decide))
theorem wd_304 {t : Nat → Nat} {n i : Nat} (ht : ∀ i, i < n → t i ≤ 255) : (srtT t n i = 1 ∧ wrtT t n i = (677454 : Int)) ↔ kdT t n i = 304 := word_iff (w := 677454) (by decide) (l := [110, 114, 117, 116]) (by decide) (by decide) rfl rfl wkd_304 ht
theorem wkd_305 : ∀ m, wkd m = 305 → m = [116, 101, 115, 102, 102, 111] := by
  intro m h
  unfold wkd at h
  repeat' split at h
  all_goals first | assumption | (exact absurd h (by decide))
theorem wd_305 {t : Nat → Nat} {n i : Nat} (ht : ∀ i, i < n → t i ≤ 255) : (srtT t n i = 1 ∧ wrtT t n i = (509824180 : Int)) ↔ kdT t n i = 305 := word_iff (w := 509824180) (by decide) (l := [116, 101, 115, 102, 102, 111]) (by decide) (by decide) rfl rfl wkd_305 ht
theorem wl_0 {t : Nat → Nat} {f m : Nat} : (m = stL.getD 0 0 ∧ ∀ j, j < stL.getD 0 0 → t (f + j) = (stN.getD 0 []).getD j 0) ↔ wlr t f m = [115, 119, 111, 104, 115] := by
  constructor
  · rintro ⟨rfl, h⟩
    show [t (f + 4), t (f + 3), t (f + 2), t (f + 1), t (f + 0)] = [115, 119, 111, 104, 115]
    rw [h 4 (by decide), h 3 (by decide), h 2 (by decide), h 1 (by decide), h 0 (by decide)]
    rfl
  · intro h
    have e := wlr_len (t := t) (f := f) m
    rw [h] at e
    obtain rfl : m = 5 := e.symm
    have h2 : [t (f + 4), t (f + 3), t (f + 2), t (f + 1), t (f + 0)] = [115, 119, 111, 104, 115] := h
    simp only [List.cons.injEq, and_true] at h2
    refine ⟨rfl, fun j hj => ?_⟩
    have hj2 : j < 5 := hj
    rcases (show j = 0 ∨ j = 1 ∨ j = 2 ∨ j = 3 ∨ j = 4 by omega) with rfl | rfl | rfl | rfl | rfl
    all_goals (first | exact h2.2.2.2.2 | exact h2.2.2.2.1 | exact h2.2.2.1 | exact h2.2.1 | exact h2.1)
theorem wl_1 {t : Nat → Nat} {f m : Nat} : (m = stL.getD 1 0 ∧ ∀ j, j < stL.getD 1 0 → t (f + j) = (stN.getD 1 []).getD j 0) ↔ wlr t f m = [102, 105] := by
  constructor
  · rintro ⟨rfl, h⟩
    show [t (f + 1), t (f + 0)] = [102, 105]
    rw [h 1 (by decide), h 0 (by decide)]
    rfl
  · intro h
    have e := wlr_len (t := t) (f := f) m
    rw [h] at e
    obtain rfl : m = 2 := e.symm
    have h2 : [t (f + 1), t (f + 0)] = [102, 105] := h
    simp only [List.cons.injEq, and_true] at h2
    refine ⟨rfl, fun j hj => ?_⟩
    have hj2 : j < 2 := hj
    rcases (show j = 0 ∨ j = 1 by omega) with rfl | rfl
    all_goals (first | exact h2.2 | exact h2.1)
theorem wl_2 {t : Nat → Nat} {f m : Nat} : (m = stL.getD 2 0 ∧ ∀ j, j < stL.getD 2 0 → t (f + j) = (stN.getD 2 []).getD j 0) ↔ wlr t f m = [114, 111] := by
  constructor
  · rintro ⟨rfl, h⟩
    show [t (f + 1), t (f + 0)] = [114, 111]
    rw [h 1 (by decide), h 0 (by decide)]
    rfl
  · intro h
    have e := wlr_len (t := t) (f := f) m
    rw [h] at e
    obtain rfl : m = 2 := e.symm
    have h2 : [t (f + 1), t (f + 0)] = [114, 111] := h
    simp only [List.cons.injEq, and_true] at h2
    refine ⟨rfl, fun j hj => ?_⟩
    have hj2 : j < 2 := hj
    rcases (show j = 0 ∨ j = 1 by omega) with rfl | rfl
    all_goals (first | exact h2.2 | exact h2.1)
theorem wl_3 {t : Nat → Nat} {f m : Nat} : (m = stL.getD 3 0 ∧ ∀ j, j < stL.getD 3 0 → t (f + j) = (stN.getD 3 []).getD j 0) ↔ wlr t f m = [100, 110, 97] := by
  constructor
  · rintro ⟨rfl, h⟩
    show [t (f + 2), t (f + 1), t (f + 0)] = [100, 110, 97]
    rw [h 2 (by decide), h 1 (by decide), h 0 (by decide)]
    rfl
  · intro h
    have e := wlr_len (t := t) (f := f) m
    rw [h] at e
    obtain rfl : m = 3 := e.symm
    have h2 : [t (f + 2), t (f + 1), t (f + 0)] = [100, 110, 97] := h
    simp only [List.cons.injEq, and_true] at h2
    refine ⟨rfl, fun j hj => ?_⟩
    have hj2 : j < 3 := hj
    rcases (show j = 0 ∨ j = 1 ∨ j = 2 by omega) with rfl | rfl | rfl
    all_goals (first | exact h2.2.2 | exact h2.2.1 | exact h2.1)
theorem wl_4 {t : Nat → Nat} {f m : Nat} : (m = stL.getD 4 0 ∧ ∀ j, j < stL.getD 4 0 → t (f + j) = (stN.getD 4 []).getD j 0) ↔ wlr t f m = [116, 111, 110] := by
  constructor
  · rintro ⟨rfl, h⟩
    show [t (f + 2), t (f + 1), t (f + 0)] = [116, 111, 110]
    rw [h 2 (by decide), h 1 (by decide), h 0 (by decide)]
    rfl
  · intro h
    have e := wlr_len (t := t) (f := f) m
    rw [h] at e
    obtain rfl : m = 3 := e.symm
    have h2 : [t (f + 2), t (f + 1), t (f + 0)] = [116, 111, 110] := h
    simp only [List.cons.injEq, and_true] at h2
    refine ⟨rfl, fun j hj => ?_⟩
    have hj2 : j < 3 := hj
    rcases (show j = 0 ∨ j = 1 ∨ j = 2 by omega) with rfl | rfl | rfl
    all_goals (first | exact h2.2.2 | exact h2.2.1 | exact h2.1)
theorem wl_5 {t : Nat → Nat} {f m : Nat} : (m = stL.getD 5 0 ∧ ∀ j, j < stL.getD 5 0 → t (f + j) = (stN.getD 5 []).getD j 0) ↔ wlr t f m = [121, 97, 100] := by
  constructor
  · rintro ⟨rfl, h⟩
    show [t (f + 2), t (f + 1), t (f + 0)] = [121, 97, 100]
    rw [h 2 (by decide), h 1 (by decide), h 0 (by decide)]
    rfl
  · intro h
    have e := wlr_len (t := t) (f := f) m
    rw [h] at e
    obtain rfl : m = 3 := e.symm
    have h2 : [t (f + 2), t (f + 1), t (f + 0)] = [121, 97, 100] := h
    simp only [List.cons.injEq, and_true] at h2
    refine ⟨rfl, fun j hj => ?_⟩
    have hj2 : j < 3 := hj
    rcases (show j = 0 ∨ j = 1 ∨ j = 2 by omega) with rfl | rfl | rfl
    all_goals (first | exact h2.2.2 | exact h2.2.1 | exact h2.1)
theorem wl_6 {t : Nat → Nat} {f m : Nat} : (m = stL.getD 6 0 ∧ ∀ j, j < stL.getD 6 0 → t (f + j) = (stN.getD 6 []).getD j 0) ↔ wlr t f m = [100, 110, 97, 104] := by
  constructor
  · rintro ⟨rfl, h⟩
    show [t (f + 3), t (f + 2), t (f + 1), t (f + 0)] = [100, 110, 97, 104]
    rw [h 3 (by decide), h 2 (by decide), h 1 (by decide), h 0 (by decide)]
    rfl
  · intro h
    have e := wlr_len (t := t) (f := f) m
    rw [h] at e
    obtain rfl : m = 4 := e.symm
    have h2 : [t (f + 3), t (f + 2), t (f + 1), t (f + 0)] = [100, 110, 97, 104] := h
    simp only [List.cons.injEq, and_true] at h2
    refine ⟨rfl, fun j hj => ?_⟩
    have hj2 : j < 4 := hj
    rcases (show j = 0 ∨ j = 1 ∨ j = 2 ∨ j = 3 by omega) with rfl | rfl | rfl | rfl
    all_goals (first | exact h2.2.2.2 | exact h2.2.2.1 | exact h2.2.1 | exact h2.1)
theorem wl_7 {t : Nat → Nat} {f m : Nat} : (m = stL.getD 7 0 ∧ ∀ j, j < stL.getD 7 0 → t (f + j) = (stN.getD 7 []).getD j 0) ↔ wlr t f m = [115, 107, 114, 97, 109] := by
  constructor
  · rintro ⟨rfl, h⟩
    show [t (f + 4), t (f + 3), t (f + 2), t (f + 1), t (f + 0)] = [115, 107, 114, 97, 109]
    rw [h 4 (by decide), h 3 (by decide), h 2 (by decide), h 1 (by decide), h 0 (by decide)]
    rfl
  · intro h
    have e := wlr_len (t := t) (f := f) m
    rw [h] at e
    obtain rfl : m = 5 := e.symm
    have h2 : [t (f + 4), t (f + 3), t (f + 2), t (f + 1), t (f + 0)] = [115, 107, 114, 97, 109] := h
    simp only [List.cons.injEq, and_true] at h2
    refine ⟨rfl, fun j hj => ?_⟩
    have hj2 : j < 5 := hj
    rcases (show j = 0 ∨ j = 1 ∨ j = 2 ∨ j = 3 ∨ j = 4 by omega) with rfl | rfl | rfl | rfl | rfl
    all_goals (first | exact h2.2.2.2.2 | exact h2.2.2.2.1 | exact h2.2.2.1 | exact h2.2.1 | exact h2.1)
theorem wl_8 {t : Nat → Nat} {f m : Nat} : (m = stL.getD 8 0 ∧ ∀ j, j < stL.getD 8 0 → t (f + j) = (stN.getD 8 []).getD j 0) ↔ wlr t f m = [110, 114, 117, 116] := by
  constructor
  · rintro ⟨rfl, h⟩
    show [t (f + 3), t (f + 2), t (f + 1), t (f + 0)] = [110, 114, 117, 116]
    rw [h 3 (by decide), h 2 (by decide), h 1 (by decide), h 0 (by decide)]
    rfl
  · intro h
    have e := wlr_len (t := t) (f := f) m
    rw [h] at e
    obtain rfl : m = 4 := e.symm
    have h2 : [t (f + 3), t (f + 2), t (f + 1), t (f + 0)] = [110, 114, 117, 116] := h
    simp only [List.cons.injEq, and_true] at h2
    refine ⟨rfl, fun j hj => ?_⟩
    have hj2 : j < 4 := hj
    rcases (show j = 0 ∨ j = 1 ∨ j = 2 ∨ j = 3 by omega) with rfl | rfl | rfl | rfl
    all_goals (first | exact h2.2.2.2 | exact h2.2.2.1 | exact h2.2.1 | exact h2.1)
theorem wl_9 {t : Nat → Nat} {f m : Nat} : (m = stL.getD 9 0 ∧ ∀ j, j < stL.getD 9 0 → t (f + j) = (stN.getD 9 []).getD j 0) ↔ wlr t f m = [116, 101, 115, 102, 102, 111] := by
  constructor
  · rintro ⟨rfl, h⟩
    show [t (f + 5), t (f + 4), t (f + 3), t (f + 2), t (f + 1), t (f + 0)] = [116, 101, 115, 102, 102, 111]
    rw [h 5 (by decide), h 4 (by decide), h 3 (by decide), h 2 (by decide), h 1 (by decide), h 0 (by decide)]
    rfl
  · intro h
    have e := wlr_len (t := t) (f := f) m
    rw [h] at e
    obtain rfl : m = 6 := e.symm
    have h2 : [t (f + 5), t (f + 4), t (f + 3), t (f + 2), t (f + 1), t (f + 0)] = [116, 101, 115, 102, 102, 111] := h
    simp only [List.cons.injEq, and_true] at h2
    refine ⟨rfl, fun j hj => ?_⟩
    have hj2 : j < 6 := hj
    rcases (show j = 0 ∨ j = 1 ∨ j = 2 ∨ j = 3 ∨ j = 4 ∨ j = 5 by omega) with rfl | rfl | rfl | rfl | rfl | rfl
    all_goals (first | exact h2.2.2.2.2.2 | exact h2.2.2.2.2.1 | exact h2.2.2.2.1 | exact h2.2.2.1 | exact h2.2.1 | exact h2.1)
