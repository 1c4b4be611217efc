theorem low8 (x : BitVec 32) (k : Nat) (h : k ≤ 24) : (x.sshiftRight k).toNat % 2 ^ 8 = (x.toNat >>> k) % 2 ^ 8 := by
  have e : (x.sshiftRight k).setWidth 8 = (x >>> k).setWidth 8 := by
    ext i hi
    simp only [BitVec.getElem_setWidth, BitVec.getLsbD_sshiftRight, BitVec.getLsbD_ushiftRight]
    have h1 : ¬ 32 ≤ i := by omega
    have h2 : k + i < 32 := by omega
    simp [h1, h2]
  have h3 := congrArg BitVec.toNat e
  simpa [BitVec.toNat_setWidth, BitVec.toNat_ushiftRight] using h3
theorem byt_u (v s : Int32) (k : Nat) (hk : k ≤ 24) (hs : ((s.toUInt32 &&& Int32.toUInt32 31).toBitVec % 32).toNat = k) (hs2 : (v >>> (s &&& 31)).toBitVec = v.toBitVec.sshiftRight k) : ((v.toUInt32 >>> (s.toUInt32 &&& Int32.toUInt32 31)).toInt32) &&& 255 = nI (byt v s) := by
  rw [pk_and _ 8 (by decide), pk_ushr v s k hs]
  unfold byt
  rw [hs2, show (256 : Nat) = 2 ^ 8 from rfl, low8 _ k hk, Nat.shiftRight_eq_div_pow]
theorem byu24 (v : Int32) : ((v.toUInt32 >>> ((24 : Int32).toUInt32 &&& Int32.toUInt32 31)).toInt32) &&& 255 = nI (byt v 24) := byt_u v 24 24 (by decide) (by decide) rfl
theorem byu16 (v : Int32) : ((v.toUInt32 >>> ((16 : Int32).toUInt32 &&& Int32.toUInt32 31)).toInt32) &&& 255 = nI (byt v 16) := byt_u v 16 16 (by decide) (by decide) rfl
theorem byu8 (v : Int32) : ((v.toUInt32 >>> ((8 : Int32).toUInt32 &&& Int32.toUInt32 31)).toInt32) &&& 255 = nI (byt v 8) := byt_u v 8 8 (by decide) (by decide) rfl
theorem byu0 (v : Int32) : ((v.toUInt32 >>> ((0 : Int32).toUInt32 &&& Int32.toUInt32 31)).toInt32) &&& 255 = nI (byt v 0) := byt_u v 0 0 (by decide) (by decide) rfl
def FedX (x k : Nat) (bs : List Nat) (I I' : mI) : Prop := (∀ b, b ≠ x → b ≠ x + 22 → I' b = I b) ∧ (∀ j, j ≠ 3 → I' x j = I x j) ∧ I' x 3 = nI (k + bs.length) ∧ (∀ j, (j < k ∨ k + bs.length ≤ j) → I' (x + 22) j = I (x + 22) j) ∧ ∀ (i t : Nat), bs[i]? = some t → I' (x + 22) (k + i) = nI t
theorem FedX.app {m k k2 : Nat} {b1 b2 : List Nat} {I I1 I2 : mI} (h1 : FedX m k b1 I I1) (h2 : FedX m k2 b2 I1 I2) (hk : k2 = k + b1.length) : FedX m k (b1 ++ b2) I I2 := by
  subst hk
  obtain ⟨p1, p2, p3, p4, p5⟩ := h1
  obtain ⟨q1, q2, q3, q4, q5⟩ := h2
  refine ⟨fun b u v => (q1 b u v).trans (p1 b u v), fun j u => (q2 j u).trans (p2 j u), by rw [q3, List.length_append, Nat.add_assoc], fun j u => ?_, fun i t hi => ?_⟩
  · rw [List.length_append] at u
    rw [q4 j (by omega), p4 j (by omega)]
  · by_cases e : i < b1.length
    · rw [List.getElem?_append_left e] at hi
      rw [q4 _ (by omega)]
      exact p5 i t hi
    · rw [List.getElem?_append_right (by omega)] at hi
      have := q5 _ t hi
      rw [show k + b1.length + (i - b1.length) = k + i by omega] at this
      exact this
/-- a change of the tape and of the clock's own numbers -/
theorem RepX.tape {T : mT} {I I' : mI} {J : mJ} {F : mF} {x : Nat} {A : Ab} (h : RepX T I J F x A) (hA : AbOK A) (A' : Ab) (hI : ∀ b, b ≠ x → b ≠ x + 22 → I' b = I b) (e : cor A' = cor A ∧ img A' = img A ∧ stm A' = stm A ∧ rfs A' = rfs A)
    (h1 : I' x 3 = nI (tap A').length ∧ I' x 4 = iI (flt A') ∧ I' x 5 = nI (bnt A') ∧ I' x 7 = iI (sts A')) (ht : ∀ (i t : Nat), (tap A')[i]? = some t → I' (x + 22) i = nI t) : RepX T I' J F x A' := by
  obtain ⟨-, g2, h3, ⟨⟨h4, h5⟩, h6, h7⟩, h8, h9, h10⟩ := h
  obtain ⟨e1, e2, e3, e4⟩ := e
  refine ⟨h1, ?_, ?_, ⟨⟨?_, fun c hc => ?_⟩, ?_, fun c hc => ?_⟩, h8, ht, ?_⟩
  · rw [hI _ (by omega) (by omega), e4]; exact g2
  · rw [e1]; exact h3.congr hA.1 (fun _ _ z => z) (fun b _ _ => hI b (by omega) (by omega)) (fun _ _ _ => rfl) (fun b _ _ => hI b (by omega) (by omega)) (fun _ _ _ => rfl) rfl
  · rw [hI _ (by omega) (by omega), e2]; exact h4
  · rw [e2] at hc; exact (h5 c hc).congr (hA.2.1 0 c hc) (fun _ _ z => z) (fun b _ _ => hI b (by omega) (by omega)) (fun _ _ _ => rfl) (fun b _ _ => hI b (by omega) (by omega)) (fun _ _ _ => rfl) rfl
  · rw [hI _ (by omega) (by omega), e2]; exact h6
  · rw [e2] at hc; exact (h7 c hc).congr (hA.2.1 1 c hc) (fun _ _ z => z) (fun b _ _ => hI b (by omega) (by omega)) (fun _ _ _ => rfl) (fun b _ _ => hI b (by omega) (by omega)) (fun _ _ _ => rfl) rfl
  · rw [hI (x + 46) (by omega) (by omega), hI (x + 47) (by omega) (by omega), hI (x + 48) (by omega) (by omega), e3]; exact h10
