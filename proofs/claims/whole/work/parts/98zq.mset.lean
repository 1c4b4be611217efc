-- the reference's findPushes
def RMem (m base S : Nat) (I : mI) (Q : RLq) (I' : mI) : Prop := (∀ a, a ≠ m + 17 → a ≠ m + 18 → I' a = I a) ∧ (∀ i, (i < base ∨ base + S ≤ i) → I' (m + 17) i = I (m + 17) i) ∧ (∀ (i p n : Nat), Q[i]? = some (p, n) → I' (m + 18) i = nI p ∧ I' (m + 17) (base + p) = nI n) ∧ ∀ p, p < S → (∀ (j n : Nat), Q[j]? ≠ some (p, n)) → I' (m + 17) (base + p) = nI 1000000000
theorem nI_irem {x y : Nat} (hx : x < 2 ^ 31) (h0 : 0 < y) (hy : y < 2 ^ 31) : nI x - nI x / nI y * nI y = nI (x % y) := by
  rw [rg_t hy, nI_toInt hx, ← iI_nat]
  congr 1
theorem nI_nz {k : Nat} (h0 : 0 < k) (hk : k < 2 ^ 31) : ¬ nI k = 0 := fun z => by
  have z2 := congrArg Int32.toInt z
  rw [nI_toInt hk] at z2
  have e0 : (0 : Int32).toInt = 0 := rfl
  omega
theorem RMem.val {W H K kf aim h kk m base : Nat} {a b : Nat → Nat} {I I' : mI} {Q : RLq} (R : RMem m base (W * H) I Q I') (B : RQ W H K a b kf aim Q h kk) {q : Nat} (hq : q < W * H) : (∃ (j n : Nat), Q[j]? = some (q, n) ∧ I' (m + 17) (base + q) = nI n ∧ n ≤ W * H) ∨ ((∀ (j n : Nat), Q[j]? ≠ some (q, n)) ∧ I' (m + 17) (base + q) = nI 1000000000) := by
  by_cases e : ∃ (j n : Nat), Q[j]? = some (q, n)
  · obtain ⟨j, n, e⟩ := e
    have := get_lt e
    have := B.len
    have := (B.2.2.1 j q n e).2.1
    exact Or.inl ⟨j, n, e, (R.2.2.1 j q n e).2, by omega⟩
  · exact Or.inr ⟨fun j n z => e ⟨j, n, z⟩, R.2.2.2 q hq (fun j n z => e ⟨j, n, z⟩)⟩
theorem RMem.new {m base S q n : Nat} {I I' : mI} {Q : RLq} (R : RMem m base S I Q I') (hq : q < S) (h0 : ∀ (j n : Nat), Q[j]? ≠ some (q, n)) : RMem m base S I (Q ++ [(q, n)]) (up2 (up2 I' (m + 17) (base + q) (nI n)) (m + 18) Q.length (nI q)) := by
  obtain ⟨r1, r2, r3, r4⟩ := R
  refine ⟨fun a a1 a2 => by rw [up2_off a2, up2_off a1]; exact r1 a a1 a2, fun i hi => by rw [up2_off (by omega), up2_ne (by omega)]; exact r2 i hi, fun i p k e => ?_, fun p hp e => ?_⟩
  · rcases get_snoc e with e | ⟨e, e1⟩
    · have hl := get_lt e
      obtain ⟨s1, s2⟩ := r3 i p k e
      refine ⟨by rw [up2_ne (by omega), up2_off (by omega)]; exact s1, ?_⟩
      have hne : p ≠ q := fun z => h0 i k (by rw [← z]; exact e)
      rw [up2_off (by omega), up2_ne (by omega)]; exact s2
    · injection e1 with e1 e2
      rw [e, e1, e2]
      exact ⟨up2_same, by rw [up2_off (by omega), up2_same]⟩
  · have hne : p ≠ q := fun z => e Q.length n (by rw [List.getElem?_append_right (Nat.le_refl _), Nat.sub_self, z]; rfl)
    rw [up2_off (by omega), up2_ne (by omega)]
    exact r4 p hp (fun j k z => e j k (get_old z))
theorem l_pk {g : gG} {d : Nat} {T : mT} {n : Nat} {I : mI} {J : mJ} {F : mF} {Q : mQ} {m kf h1 h2 aim W H K : Nat} {a b : Nat → Nat} {h p nn : Nat} (hM : MS T F m) (hW : 0 < W ∧ W ≤ 400) (hH : 0 < H ∧ H ≤ 400) (hK : K ≤ 4) (hkf : kf ≤ K) (hh : h1 < 6 ∧ h2 < 6) (hk5 : I (m + 2) 5 = nI K) (hab : ∀ k, k < K → a k ≤ 9 ∧ b k ≤ 9) (hkn : ∀ k, k < K → I (m + 2) (124 + 6 * k + h1) = nI (a k) ∧ I (m + 2) (124 + 6 * k + h2) = nI (b k)) (kk : ∀ (Qs : RLq) (I' : mI), RQ W H K a b kf aim Qs h K → h < Qs.length → RMem m (160000 * kf) (W * H) I Qs I' → V g mX12_findPushes (d + 1) Q 0 0 247 [some (.ref m), some (.int (nI kf)), some (.int (nI h1)), some (.int (nI h2)), some (.int (nI aim)), some (.int (nI W)), some (.int (nI H)), some (.int (nI (160000 * kf))), some (.int (nI Qs.length)), some (.int (nI h)), some (.int (nI p)), some (.int (nI K)), none, none] [] T n I' J F) : ∀ (t k : Nat) (Qs : RLq) (I' : mI), k + t = K → kf ≤ k → RQ W H K a b kf aim Qs h k → Qs[h]? = some (p, nn) → RMem m (160000 * kf) (W * H) I Qs I' → V g mX12_findPushes (d + 1) Q 0 0 98 [some (.ref m), some (.int (nI kf)), some (.int (nI h1)), some (.int (nI h2)), some (.int (nI aim)), some (.int (nI W)), some (.int (nI H)), some (.int (nI (160000 * kf))), some (.int (nI Qs.length)), some (.int (nI h)), some (.int (nI p)), some (.int (nI k)), none, none] [] T n I' J F := by
  have hWH : W * H ≤ 400 * 400 := Nat.mul_le_mul hW.2 hH.2
  intro t
  induction t with
  | zero =>
    intro k Qs I' hj hk B hq R
    obtain rfl : k = K := by omega
    have hr2 := R.1 (m + 2) (by omega) (by omega)
    refine V.iload (pc := 98) dX12_findPushes_98 rfl ?_
    refine V.aload_n (pc := 100) dX12_findPushes_100 rfl ?_
    refine V.getR (pc := 101) dX12_findPushes_101 fX12_13_11 rfl hM.o hM.f3 ?_
    refine V.iconst (v := 5) (pc := 104) dX12_findPushes_104 (by decide) ?_
    refine V.iald' (k := 5) (pc := 105) dX12_findPushes_105 hM.t3 rfl (by decide) (by decide) ?_
    rw [hr2, hk5]
    refine V.icmp_ge 247 (pc := 106) dX12_findPushes_106 (by decide) (fun h106 => ?_) (fun h106 => absurd (nI_le (Nat.le_refl _) (by omega)) h106)
    exact kk Qs I' B (get_lt hq) R
  | succ t ih =>
    intro k Qs I' hj hk B hq R
    have hr2 := R.1 (m + 2) (by omega) (by omega)
    obtain ⟨p1, p2, -⟩ := B.2.2.1 h p nn hq
    obtain ⟨x1, y1⟩ := dv_lt p1
    obtain ⟨ka, kb⟩ := hab k (by omega)
    have ql := bst_lt (a := a) (b := b) hW.1 hH.1 k p
    have hl := get_lt hq
    have hlen := B.len
    have eX : p / H + 9 * W - a k = p / H + (9 * W - a k) := Nat.add_sub_assoc (by omega) _
    have eY : p % H + 9 * H - b k = p % H + (9 * H - b k) := Nat.add_sub_assoc (by omega) _
    have lX := Nat.mod_lt (p / H + (9 * W - a k)) hW.1
    have lY := Nat.mod_lt (p % H + (9 * H - b k)) hH.1
    have eQ : (p / H + (9 * W - a k)) % W * H + (p % H + (9 * H - b k)) % H = bst W H a b k p := rfl
    have hv := R.val B ql
    refine V.iload (pc := 98) dX12_findPushes_98 rfl ?_
    refine V.aload_n (pc := 100) dX12_findPushes_100 rfl ?_
    refine V.getR (pc := 101) dX12_findPushes_101 fX12_13_11 rfl hM.o hM.f3 ?_
    refine V.iconst (v := 5) (pc := 104) dX12_findPushes_104 (by decide) ?_
    refine V.iald' (k := 5) (pc := 105) dX12_findPushes_105 hM.t3 rfl (by decide) (by decide) ?_
    rw [hr2, hk5]
    refine V.icmp_ge 247 (pc := 106) dX12_findPushes_106 (by decide) (fun h106 => absurd h106 (nI_ge (by omega) (by omega))) (fun h106 => ?_)
    refine V.iload (pc := 109) dX12_findPushes_109 rfl ?_
    refine V.iload (pc := 111) dX12_findPushes_111 rfl ?_
    refine V.idiv (pc := 113) dX12_findPushes_113 (nI_nz (by omega) (by omega)) ?_
    rw [nI_div (by omega) (by omega) (by omega)]
    refine V.bipush (v := 9) (pc := 114) dX12_findPushes_114 (by decide) ?_
    refine V.iload (pc := 116) dX12_findPushes_116 rfl ?_
    refine V.imul (pc := 118) dX12_findPushes_118 ?_
    rw [show (9 : Int32) = nI 9 from rfl, pk_mul]
    refine V.iadd (pc := 119) dX12_findPushes_119 ?_
    rw [nI_add]
    refine V.aload_n (pc := 120) dX12_findPushes_120 rfl ?_
    refine V.getR (pc := 121) dX12_findPushes_121 fX12_13_11 rfl hM.o hM.f3 ?_
    refine V.bipush (v := 124) (pc := 124) dX12_findPushes_124 (by decide) ?_
    refine V.bipush (v := 6) (pc := 126) dX12_findPushes_126 (by decide) ?_
    refine V.iload (pc := 128) dX12_findPushes_128 rfl ?_
    refine V.imul (pc := 130) dX12_findPushes_130 ?_
    refine V.iadd (pc := 131) dX12_findPushes_131 ?_
    refine V.iload_n (pc := 132) dX12_findPushes_132 rfl ?_
    refine V.iadd (pc := 133) dX12_findPushes_133 ?_
    refine V.iald' (k := 124 + 6 * k + h1) (pc := 134) dX12_findPushes_134 hM.t3 (by rw [show (124 : Int32) = nI 124 from rfl, show (6 : Int32) = nI 6 from rfl, pk_mul, nI_add, nI_add]) (by omega) (by decide) ?_
    rw [hr2, (hkn k (by omega)).1]
    refine V.isub (pc := 135) dX12_findPushes_135 ?_
    rw [pk_sub (by omega), eX]
    refine V.iload (pc := 136) dX12_findPushes_136 rfl ?_
    refine V.irem (pc := 138) dX12_findPushes_138 (nI_nz (by omega) (by omega)) ?_
    rw [nI_irem (by omega) (by omega) (by omega)]
    refine V.is (pc := 139) dX12_findPushes_139 (by decide) (st1_12 rfl) ?_
    refine V.iload (pc := 141) dX12_findPushes_141 rfl ?_
    refine V.iload (pc := 143) dX12_findPushes_143 rfl ?_
    refine V.irem (pc := 145) dX12_findPushes_145 (nI_nz (by omega) (by omega)) ?_
    rw [nI_irem (by omega) (by omega) (by omega)]
    refine V.bipush (v := 9) (pc := 146) dX12_findPushes_146 (by decide) ?_
    refine V.iload (pc := 148) dX12_findPushes_148 rfl ?_
    refine V.imul (pc := 150) dX12_findPushes_150 ?_
    rw [show (9 : Int32) = nI 9 from rfl, pk_mul]
    refine V.iadd (pc := 151) dX12_findPushes_151 ?_
    rw [nI_add]
    refine V.aload_n (pc := 152) dX12_findPushes_152 rfl ?_
    refine V.getR (pc := 153) dX12_findPushes_153 fX12_13_11 rfl hM.o hM.f3 ?_
    refine V.bipush (v := 124) (pc := 156) dX12_findPushes_156 (by decide) ?_
    refine V.bipush (v := 6) (pc := 158) dX12_findPushes_158 (by decide) ?_
    refine V.iload (pc := 160) dX12_findPushes_160 rfl ?_
    refine V.imul (pc := 162) dX12_findPushes_162 ?_
    refine V.iadd (pc := 163) dX12_findPushes_163 ?_
    refine V.iload_n (pc := 164) dX12_findPushes_164 rfl ?_
    refine V.iadd (pc := 165) dX12_findPushes_165 ?_
    refine V.iald' (k := 124 + 6 * k + h2) (pc := 166) dX12_findPushes_166 hM.t3 (by rw [show (124 : Int32) = nI 124 from rfl, show (6 : Int32) = nI 6 from rfl, pk_mul, nI_add, nI_add]) (by omega) (by decide) ?_
    rw [hr2, (hkn k (by omega)).2]
    refine V.isub (pc := 167) dX12_findPushes_167 ?_
    rw [pk_sub (by omega), eY]
    refine V.iload (pc := 168) dX12_findPushes_168 rfl ?_
    refine V.irem (pc := 170) dX12_findPushes_170 (nI_nz (by omega) (by omega)) ?_
    rw [nI_irem (by omega) (by omega) (by omega)]
    refine V.is (pc := 171) dX12_findPushes_171 (by decide) (st1_13 rfl) ?_
    refine V.aload_n (pc := 173) dX12_findPushes_173 rfl ?_
    refine V.getR (pc := 174) dX12_findPushes_174 fX12_75_11 rfl hM.o hM.f38 ?_
    refine V.iload (pc := 177) dX12_findPushes_177 rfl ?_
    refine V.iload (pc := 179) dX12_findPushes_179 rfl ?_
    refine V.iload (pc := 181) dX12_findPushes_181 rfl ?_
    refine V.imul (pc := 183) dX12_findPushes_183 ?_
    refine V.iadd (pc := 184) dX12_findPushes_184 ?_
    refine V.iload (pc := 185) dX12_findPushes_185 rfl ?_
    refine V.iadd (pc := 187) dX12_findPushes_187 ?_
    rcases hv with ⟨j2, n2, v1, v2, v3⟩ | ⟨v1, v2⟩
    · refine V.iald' (k := 160000 * kf + bst W H a b k p) (pc := 188) dX12_findPushes_188 hM.t38 (by rw [pk_mul, nI_add, nI_add, Nat.add_assoc, eQ]) (by omega) (by decide) ?_
      rw [v2]
      refine V.ldcw (pc := 189) dX12_findPushes_189 qX12_431 ?_
      refine V.icmp_ne 241 (pc := 192) dX12_findPushes_192 (by decide) (fun h192 => ?_) (fun h192 => absurd h192 (fun z => by have z2 := congrArg Int32.toInt z; rw [nI_toInt (by omega)] at z2; have e1 : (1000000000 : Int32).toInt = 1000000000 := rfl; omega))
      refine V.iinc1 (pc := 241) dX12_findPushes_241 (by decide) rfl (st1_11 rfl) ?_
      refine V.goto 98 (pc := 244) dX12_findPushes_244 (by decide) ?_
      refine V.weak wk_12 ?_
      refine V.weak wk_13 ?_
      rw [nI_1]
      exact ih (k + 1) Qs I' (by omega) (by omega) (B.met hq v1) hq R
    · refine V.iald' (k := 160000 * kf + bst W H a b k p) (pc := 188) dX12_findPushes_188 hM.t38 (by rw [pk_mul, nI_add, nI_add, Nat.add_assoc, eQ]) (by omega) (by decide) ?_
      rw [v2]
      refine V.ldcw (pc := 189) dX12_findPushes_189 qX12_431 ?_
      refine V.icmp_ne 241 (pc := 192) dX12_findPushes_192 (by decide) (fun h192 => absurd rfl h192) (fun h192 => ?_)
      refine V.aload_n (pc := 195) dX12_findPushes_195 rfl ?_
      refine V.getR (pc := 196) dX12_findPushes_196 fX12_75_11 rfl hM.o hM.f38 ?_
      refine V.iload (pc := 199) dX12_findPushes_199 rfl ?_
      refine V.iload (pc := 201) dX12_findPushes_201 rfl ?_
      refine V.iload (pc := 203) dX12_findPushes_203 rfl ?_
      refine V.imul (pc := 205) dX12_findPushes_205 ?_
      refine V.iadd (pc := 206) dX12_findPushes_206 ?_
      refine V.iload (pc := 207) dX12_findPushes_207 rfl ?_
      refine V.iadd (pc := 209) dX12_findPushes_209 ?_
      refine V.aload_n (pc := 210) dX12_findPushes_210 rfl ?_
      refine V.getR (pc := 211) dX12_findPushes_211 fX12_75_11 rfl hM.o hM.f38 ?_
      refine V.iload (pc := 214) dX12_findPushes_214 rfl ?_
      refine V.iload (pc := 216) dX12_findPushes_216 rfl ?_
      refine V.iadd (pc := 218) dX12_findPushes_218 ?_
      refine V.iald' (k := 160000 * kf + p) (pc := 219) dX12_findPushes_219 hM.t38 (by rw [nI_add]) (by omega) (by decide) ?_
      rw [(R.2.2.1 h p nn hq).2]
      refine V.iconst (v := 1) (pc := 220) dX12_findPushes_220 (by decide) ?_
      refine V.iadd (pc := 221) dX12_findPushes_221 ?_
      rw [nI_1]
      refine V.iast' (k := 160000 * kf + bst W H a b k p) (pc := 222) dX12_findPushes_222 hM.t38 (by rw [pk_mul, nI_add, nI_add, Nat.add_assoc, eQ]) (by omega) (by decide) ?_
      refine V.aload_n (pc := 223) dX12_findPushes_223 rfl ?_
      refine V.getR (pc := 224) dX12_findPushes_224 fX12_79_11 rfl hM.o hM.f39 ?_
      refine V.iload (pc := 227) dX12_findPushes_227 rfl ?_
      refine V.iload (pc := 229) dX12_findPushes_229 rfl ?_
      refine V.iload (pc := 231) dX12_findPushes_231 rfl ?_
      refine V.imul (pc := 233) dX12_findPushes_233 ?_
      refine V.iload (pc := 234) dX12_findPushes_234 rfl ?_
      refine V.iadd (pc := 236) dX12_findPushes_236 ?_
      have hl2 := (B.new hW.1 hH.1 hK ka kb hk (by omega) hq (fun j p' n' e z => v1 j n' (by rw [← z]; exact e))).len
      rw [List.length_append, List.length_singleton] at hl2
      refine V.iast' (k := Qs.length) (pc := 237) dX12_findPushes_237 hM.t39 rfl (by omega) (by decide) ?_
      refine V.iinc1 (pc := 238) dX12_findPushes_238 (by decide) rfl (st1_8 rfl) ?_
      refine V.iinc1 (pc := 241) dX12_findPushes_241 (by decide) rfl (st1_11 rfl) ?_
      refine V.goto 98 (pc := 244) dX12_findPushes_244 (by decide) ?_
      refine V.weak wk_12 ?_
      refine V.weak wk_13 ?_
      rw [nI_1, nI_1]
      have z := ih (k + 1) (Qs ++ [(bst W H a b k p, nn + 1)]) _ (by omega) (by omega) (B.new hW.1 hH.1 hK ka kb hk (by omega) hq (fun j p' n' e z => v1 j n' (by rw [← z]; exact e))) (get_old hq) (R.new (n := nn + 1) ql v1)
      rw [List.length_append, List.length_singleton] at z
      rw [pk_mul, nI_add, eQ]
      exact z
