-- the reference reads tokens
def TpM (tt : Nat → Nat) (N : Nat) (I : mI) (m : Nat) : Prop := N ≤ 400 ∧ (∀ i, tt i ≤ 255) ∧ I m 8 = nI N ∧ ∀ i, i < N → I (m + 5) i = nI (tt i)
def NxF (m : Nat) (I : mI) (J : mJ) (I' : mI) (J' : mJ) : Prop := (∀ b, b ≠ m → I' b = I b) ∧ (∀ k, k ≠ 9 → k ≠ 10 → k ≠ 11 → I' m k = I m k) ∧ (∀ b, b ≠ m → J' b = J b) ∧ (∀ k, k ≠ 12 → J' m k = J m k)
theorem NxF.rf {m : Nat} {I : mI} {J : mJ} : NxF m I J I J := ⟨fun _ _ => rfl, fun _ _ _ _ => rfl, fun _ _ => rfl, fun _ _ => rfl⟩
theorem NxF.i {m k : Nat} {I I' : mI} {J J' : mJ} {v : Int32} (h : NxF m I J I' J') (hk : k = 9 ∨ k = 10 ∨ k = 11) : NxF m I J (up2 I' m k v) J' := ⟨fun b hb => by rw [up2_off hb]; exact h.1 b hb, fun j h1 h2 h3 => by rw [up2_ne (by omega)]; exact h.2.1 j h1 h2 h3, h.2.2.1, h.2.2.2⟩
theorem NxF.j {m : Nat} {I I' : mI} {J J' : mJ} {v : Int64} (h : NxF m I J I' J') : NxF m I J I' (up2 J' m 12 v) := ⟨h.1, h.2.1, fun b hb => by rw [up2_off hb]; exact h.2.2.1 b hb, fun j h1 => by rw [up2_ne (by omega)]; exact h.2.2.2 j h1⟩
theorem NxF.tr {m : Nat} {I I' I'' : mI} {J J' J'' : mJ} (h : NxF m I J I' J') (h2 : NxF m I' J' I'' J'') : NxF m I J I'' J'' := ⟨fun b hb => (h2.1 b hb).trans (h.1 b hb), fun k a b c => (h2.2.1 k a b c).trans (h.2.1 k a b c), fun b hb => (h2.2.2.1 b hb).trans (h.2.2.1 b hb), fun k a => (h2.2.2.2 k a).trans (h.2.2.2 k a)⟩
theorem NxF.tp {m N : Nat} {tt : Nat → Nat} {I I' : mI} {J J' : mJ} (h : NxF m I J I' J') (hT : TpM tt N I m) : TpM tt N I' m := ⟨hT.1, hT.2.1, by rw [h.2.1 8 (by decide) (by decide) (by decide)]; exact hT.2.2.1, fun i hi => by rw [h.1 _ (by omega)]; exact hT.2.2.2 i hi⟩
theorem sm_iff {tt : Nat → Nat} {i : Nat} (h : tt i ≤ 255) : ((97 : Int32) ≤ nI (tt i) ∧ nI (tt i) ≤ 122) ↔ isSm tt i = true := by
  rw [show (97 : Int32) = nI 97 from rfl, show (122 : Int32) = nI 122 from rfl, nI_leI (by decide) (by omega), nI_leI (by omega) (by decide), isSm, decide_eq_true_eq]
theorem dg_iff {tt : Nat → Nat} {i : Nat} (h : tt i ≤ 255) : ((48 : Int32) ≤ nI (tt i) ∧ nI (tt i) ≤ 57) ↔ isDg tt i = true := by
  rw [show (48 : Int32) = nI 48 from rfl, show (57 : Int32) = nI 57 from rfl, nI_leI (by decide) (by omega), nI_leI (by omega) (by decide), isDg, decide_eq_true_eq]
theorem l_nx1 {g : gG} {d : Nat} {T : mT} {n : Nat} {I : mI} {J : mJ} {F : mF} {Q : mQ} {m N p0 : Nat} {tt : Nat → Nat} (hM : MS T F m) (hT : TpM tt N I m) (kk : ∀ I' : mI, NxF m I J I' J → I' m 9 = nI (skp tt N p0) → V g mX12_next (d + 1) Q 0 0 46 [some (.ref m)] [] T n I' J F) : ∀ (f p : Nat) (I' : mI), N - p < f → p ≤ N → skp tt N p = skp tt N p0 → NxF m I J I' J → I' m 9 = nI p → V g mX12_next (d + 1) Q 0 0 8 [some (.ref m)] [] T n I' J F := by
  intro f
  induction f with
  | zero => intro p I' h; omega
  | succ f ih =>
    intro p I' hf hp hs hi e9
    have hT2 := hi.tp hT
    obtain ⟨a1, a2, a3, a4⟩ := hT2
    refine V.aload_n (pc := 8) dX12_next_8 rfl ?_
    refine V.getI (pc := 9) dX12_next_9 fX12_158_11 rfl hM.o ?_
    rw [e9]
    refine V.aload_n (pc := 12) dX12_next_12 rfl ?_
    refine V.getI (pc := 13) dX12_next_13 fX12_138_11 rfl hM.o ?_
    rw [a3]
    refine V.icmp_ge 46 (pc := 16) dX12_next_16 (by decide) (fun h16 => ?_) (fun h16 => ?_)
    · rw [nI_leI (by omega) (by omega)] at h16
      exact kk I' hi (by rw [e9, ← hs]; unfold skp; rw [scn_e h16])
    · rw [nI_leI (by omega) (by omega)] at h16
      have b1 := a2 p
      refine V.aload_n (pc := 19) dX12_next_19 rfl ?_
      refine V.getR (pc := 20) dX12_next_20 fX12_23_11 rfl hM.o hM.f7 ?_
      refine V.aload_n (pc := 23) dX12_next_23 rfl ?_
      refine V.getI (pc := 24) dX12_next_24 fX12_158_11 rfl hM.o ?_
      rw [e9]
      refine V.iald' (k := p) (pc := 27) dX12_next_27 hM.t7 rfl (by omega) (by decide) ?_
      rw [a4 p (by omega)]
      refine V.bipush (v := 32) (pc := 28) dX12_next_28 (by decide) ?_
      refine V.icmp_ne 46 (pc := 30) dX12_next_30 (by decide) (fun h30 => ?_) (fun h30 => ?_)
      · rw [show (32 : Int32) = nI 32 from rfl, nI_eq (by omega) (by decide)] at h30
        exact kk I' hi (by rw [e9, ← hs]; unfold skp; rw [scn_n (by rw [isBl, decide_eq_true_eq]; exact h30)])
      · rw [show (32 : Int32) = nI 32 from rfl, nI_eq (by omega) (by decide)] at h30
        refine V.aload_n (pc := 33) dX12_next_33 rfl ?_
        refine V.dup (pc := 34) dX12_next_34 rfl ?_
        refine V.getI (pc := 35) dX12_next_35 fX12_158_11 rfl hM.o ?_
        rw [e9]
        refine V.iconst (v := 1) (pc := 38) dX12_next_38 (by decide) ?_
        refine V.iadd (pc := 39) dX12_next_39 ?_
        rw [nI_1]
        refine V.putI (pc := 40) dX12_next_40 fX12_158_11 (fun r h => by cases h; exact Or.inl rfl) rfl hM.o ?_
        refine V.goto 8 (pc := 43) dX12_next_43 (by decide) ?_
        exact ih (p + 1) _ (by omega) (by omega) (by rw [← hs]; unfold skp; exact (scn_y (by omega) (by rw [isBl, decide_eq_true_eq]; exact h30)).symm) (hi.i (by omega)) up2_same
theorem wrd_step {tt : Nat → Nat} {f k : Nat} (hk : k < 10) (h : 97 ≤ tt (f + k)) : lI (if k ≤ 10 then (wcd (wlr tt f k) : Int) else -1) * 32 + lN (tt (f + k)) - 96 = lI (if k + 1 ≤ 10 then (wcd (wlr tt f (k + 1)) : Int) else -1) := by
  rw [if_pos (by omega), if_pos (by omega), show (32 : Int64) = lI 32 from rfl, show (96 : Int64) = lI 96 from rfl, lI_mul, ← lI_nat, lI_add, lI_sub, wlr, wcd]
  congr 1
  omega
theorem dgt_step {tt : Nat → Nat} {f k : Nat} (h : 48 ≤ tt (f + k)) (h1 : ¬ 1000000 < dvR tt f k) : lN (dvR tt f k) * 10 + lN (tt (f + k)) - 48 = lN (dvR tt f (k + 1)) := by
  rw [show (10 : Int64) = lN 10 from rfl, show (48 : Int64) = lN 48 from rfl, lN_mul, lN_add, lN_sub (by omega), dvR, if_neg h1]
  congr 1
  omega
theorem l_nx2 {g : gG} {d : Nat} {T : mT} {n : Nat} {I : mI} {J : mJ} {F : mF} {Q : mQ} {m N f0 : Nat} {tt : Nat → Nat} (hM : MS T F m) (hT : TpM tt N I m) (e9 : I m 9 = nI f0) (e11 : I m 11 = 1) (hf0 : f0 ≤ N) (kk : ∀ (I' : mI) (J' : mJ), NxF m I J I' J' → I' m 9 = nI f0 → I' m 11 = 1 → I' m 10 = nI (scn (isSm tt) (N - f0) f0) → J' m 12 = lI (if scn (isSm tt) (N - f0) f0 - f0 ≤ 10 then (wcd (wlr tt f0 (scn (isSm tt) (N - f0) f0 - f0)) : Int) else -1) → V g mX12_next (d + 1) Q 0 0 243 [some (.ref m)] [] T n I' J' F) : ∀ (f k : Nat) (I' : mI) (J' : mJ), N - (f0 + k) < f → f0 + k ≤ N → scn (isSm tt) (N - (f0 + k)) (f0 + k) = scn (isSm tt) (N - f0) f0 → NxF m I J I' J' → I' m 9 = nI f0 → I' m 11 = 1 → I' m 10 = nI (f0 + k) → J' m 12 = lI (if k ≤ 10 then (wcd (wlr tt f0 k) : Int) else -1) → V g mX12_next (d + 1) Q 0 0 149 [some (.ref m)] [] T n I' J' F := by
  intro f
  induction f with
  | zero => intro k I' J' h; omega
  | succ f ih =>
    intro k I' J' hf hp hs hi e9 e11 e10 e12
    have hT2 := hi.tp hT
    obtain ⟨a1, a2, a3, a4⟩ := hT2
    refine V.aload_n (pc := 149) dX12_next_149 rfl ?_
    refine V.getI (pc := 150) dX12_next_150 fX12_171_11 rfl hM.o ?_
    rw [e11]
    refine V.iconst (v := 1) (pc := 153) dX12_next_153 (by decide) ?_
    refine V.icmp_ne 243 (pc := 154) dX12_next_154 (by decide) (fun h154 => absurd rfl h154) (fun h154 => ?_)
    refine V.aload_n (pc := 157) dX12_next_157 rfl ?_
    refine V.getI (pc := 158) dX12_next_158 fX12_148_11 rfl hM.o ?_
    rw [e10]
    refine V.aload_n (pc := 161) dX12_next_161 rfl ?_
    refine V.getI (pc := 162) dX12_next_162 fX12_138_11 rfl hM.o ?_
    rw [a3]
    refine V.icmp_ge 243 (pc := 165) dX12_next_165 (by decide) (fun h165 => ?_) (fun h165 => ?_)
    · rw [nI_leI (by omega) (by omega)] at h165
      have hz : scn (isSm tt) (N - f0) f0 = f0 + k := by rw [← hs]; exact scn_e h165
      exact kk I' J' hi e9 e11 (by rw [hz]; exact e10) (by rw [hz, Nat.add_sub_cancel_left]; exact e12)
    · rw [nI_leI (by omega) (by omega)] at h165
      have b1 := a2 (f0 + k)
      refine V.aload_n (pc := 168) dX12_next_168 rfl ?_
      refine V.getR (pc := 169) dX12_next_169 fX12_23_11 rfl hM.o hM.f7 ?_
      refine V.aload_n (pc := 172) dX12_next_172 rfl ?_
      refine V.getI (pc := 173) dX12_next_173 fX12_148_11 rfl hM.o ?_
      rw [e10]
      refine V.iald' (k := f0 + k) (pc := 176) dX12_next_176 hM.t7 rfl (by omega) (by decide) ?_
      rw [a4 (f0 + k) (by omega)]
      refine V.pS (as := [_]) (pc := 177) dX12_next_177 lX12_165 bX12_isSmall sX12_isSmall (c_isSmall (d := d + 0) _) (by omega) rfl (Nat.le_of_ble_eq_true rfl) ?_
      rw [bi_c (sm_iff b1)]
      refine V.if_eq 243 (pc := 180) dX12_next_180 (by decide) (fun h180 => ?_) (fun h180 => ?_)
      · have hz1 := bi_eq.mp h180
        have hz : scn (isSm tt) (N - f0) f0 = f0 + k := by rw [← hs]; exact scn_n hz1
        exact kk I' J' hi e9 e11 (by rw [hz]; exact e10) (by rw [hz, Nat.add_sub_cancel_left]; exact e12)
      · have hz1 := bi_ne.mp h180
        have hz2 := of_decide_eq_true hz1
        refine V.aload_n (pc := 183) dX12_next_183 rfl ?_
        refine V.aload_n (pc := 184) dX12_next_184 rfl ?_
        refine V.getI (pc := 185) dX12_next_185 fX12_148_11 rfl hM.o ?_
        rw [e10]
        refine V.aload_n (pc := 188) dX12_next_188 rfl ?_
        refine V.getI (pc := 189) dX12_next_189 fX12_158_11 rfl hM.o ?_
        rw [e9]
        refine V.isub (pc := 192) dX12_next_192 ?_
        rw [pk_sub (by omega), Nat.add_sub_cancel_left]
        refine V.bipush (v := 10) (pc := 193) dX12_next_193 (by decide) ?_
        refine V.icmp_ge 224 (pc := 195) dX12_next_195 (by decide) (fun h195 => ?_) (fun h195 => ?_)
        · rw [show (10 : Int32) = nI 10 from rfl, nI_leI (by omega) (by omega)] at h195
          refine V.ldc2 (pc := 224) dX12_next_224 qX12_178 ?_
          refine V.putJ (pc := 227) dX12_next_227 fX12_161_11 (fun r h => by cases h; exact Or.inl rfl) rfl hM.o ?_
          refine V.aload_n (pc := 230) dX12_next_230 rfl ?_
          refine V.dup (pc := 231) dX12_next_231 rfl ?_
          refine V.getI (pc := 232) dX12_next_232 fX12_148_11 rfl hM.o ?_
          rw [e10]
          refine V.iconst (v := 1) (pc := 235) dX12_next_235 (by decide) ?_
          refine V.iadd (pc := 236) dX12_next_236 ?_
          rw [nI_1]
          refine V.putI (pc := 237) dX12_next_237 fX12_148_11 (fun r h => by cases h; exact Or.inl rfl) rfl hM.o ?_
          refine V.goto 149 (pc := 240) dX12_next_240 (by decide) ?_
          exact ih (k + 1) _ _ (by omega) (by omega) (by rw [← hs, scn_y (by omega) hz1]; rfl) (hi.j.i (by omega)) (by rw [up2_ne (by omega)]; exact e9) (by rw [up2_ne (by omega)]; exact e11) up2_same (by rw [up2_same, if_neg (by omega)]; rfl)
        · rw [show (10 : Int32) = nI 10 from rfl, nI_leI (by omega) (by omega)] at h195
          refine V.aload_n (pc := 198) dX12_next_198 rfl ?_
          refine V.getJ (pc := 199) dX12_next_199 fX12_161_11 rfl hM.o ?_
          rw [e12]
          refine V.ldc2 (pc := 202) dX12_next_202 qX12_174 ?_
          refine V.lmul (pc := 205) dX12_next_205 ?_
          refine V.aload_n (pc := 206) dX12_next_206 rfl ?_
          refine V.getR (pc := 207) dX12_next_207 fX12_23_11 rfl hM.o hM.f7 ?_
          refine V.aload_n (pc := 210) dX12_next_210 rfl ?_
          refine V.getI (pc := 211) dX12_next_211 fX12_148_11 rfl hM.o ?_
          rw [e10]
          refine V.iald' (k := f0 + k) (pc := 214) dX12_next_214 hM.t7 rfl (by omega) (by decide) ?_
          rw [a4 (f0 + k) (by omega)]
          refine V.i2l (pc := 215) dX12_next_215 ?_
          rw [nI_l (by omega)]
          refine V.ladd (pc := 216) dX12_next_216 ?_
          refine V.ldc2 (pc := 217) dX12_next_217 qX12_176 ?_
          refine V.lsub (pc := 220) dX12_next_220 ?_
          rw [wrd_step (by omega) hz2.1]
          refine V.goto 227 (pc := 221) dX12_next_221 (by decide) ?_
          refine V.putJ (pc := 227) dX12_next_227 fX12_161_11 (fun r h => by cases h; exact Or.inl rfl) rfl hM.o ?_
          refine V.aload_n (pc := 230) dX12_next_230 rfl ?_
          refine V.dup (pc := 231) dX12_next_231 rfl ?_
          refine V.getI (pc := 232) dX12_next_232 fX12_148_11 rfl hM.o ?_
          rw [e10]
          refine V.iconst (v := 1) (pc := 235) dX12_next_235 (by decide) ?_
          refine V.iadd (pc := 236) dX12_next_236 ?_
          rw [nI_1]
          refine V.putI (pc := 237) dX12_next_237 fX12_148_11 (fun r h => by cases h; exact Or.inl rfl) rfl hM.o ?_
          refine V.goto 149 (pc := 240) dX12_next_240 (by decide) ?_
          exact ih (k + 1) _ _ (by omega) (by omega) (by rw [← hs, scn_y (by omega) hz1]; rfl) (hi.j.i (by omega)) (by rw [up2_ne (by omega)]; exact e9) (by rw [up2_ne (by omega)]; exact e11) up2_same up2_same
theorem l_nx3 {g : gG} {d : Nat} {T : mT} {n : Nat} {I : mI} {J : mJ} {F : mF} {Q : mQ} {m N f0 : Nat} {tt : Nat → Nat} (hM : MS T F m) (hT : TpM tt N I m) (e9 : I m 9 = nI f0) (e11 : I m 11 = 2) (hf0 : f0 ≤ N) (kk : ∀ (I' : mI) (J' : mJ), NxF m I J I' J' → I' m 9 = nI f0 → I' m 11 = 2 → I' m 10 = nI (scn (isDg tt) (N - f0) f0) → J' m 12 = lN (dvR tt f0 (scn (isDg tt) (N - f0) f0 - f0)) → V g mX12_next (d + 1) Q 0 0 335 [some (.ref m)] [] T n I' J' F) : ∀ (f k : Nat) (I' : mI) (J' : mJ), N - (f0 + k) < f → f0 + k ≤ N → scn (isDg tt) (N - (f0 + k)) (f0 + k) = scn (isDg tt) (N - f0) f0 → NxF m I J I' J' → I' m 9 = nI f0 → I' m 11 = 2 → I' m 10 = nI (f0 + k) → J' m 12 = lN (dvR tt f0 k) → V g mX12_next (d + 1) Q 0 0 243 [some (.ref m)] [] T n I' J' F := by
  intro f
  induction f with
  | zero => intro k I' J' h; omega
  | succ f ih =>
    intro k I' J' hf hp hs hi e9 e11 e10 e12
    have hT2 := hi.tp hT
    obtain ⟨a1, a2, a3, a4⟩ := hT2
    have hdv := dvR_le (t := tt) (f := f0) a2 k
    refine V.aload_n (pc := 243) dX12_next_243 rfl ?_
    refine V.getI (pc := 244) dX12_next_244 fX12_171_11 rfl hM.o ?_
    rw [e11]
    refine V.iconst (v := 2) (pc := 247) dX12_next_247 (by decide) ?_
    refine V.icmp_ne 335 (pc := 248) dX12_next_248 (by decide) (fun h248 => absurd rfl h248) (fun h248 => ?_)
    refine V.aload_n (pc := 251) dX12_next_251 rfl ?_
    refine V.getI (pc := 252) dX12_next_252 fX12_148_11 rfl hM.o ?_
    rw [e10]
    refine V.aload_n (pc := 255) dX12_next_255 rfl ?_
    refine V.getI (pc := 256) dX12_next_256 fX12_138_11 rfl hM.o ?_
    rw [a3]
    refine V.icmp_ge 335 (pc := 259) dX12_next_259 (by decide) (fun h259 => ?_) (fun h259 => ?_)
    · rw [nI_leI (by omega) (by omega)] at h259
      have hz : scn (isDg tt) (N - f0) f0 = f0 + k := by rw [← hs]; exact scn_e h259
      exact kk I' J' hi e9 e11 (by rw [hz]; exact e10) (by rw [hz, Nat.add_sub_cancel_left]; exact e12)
    · rw [nI_leI (by omega) (by omega)] at h259
      have b1 := a2 (f0 + k)
      refine V.aload_n (pc := 262) dX12_next_262 rfl ?_
      refine V.getR (pc := 263) dX12_next_263 fX12_23_11 rfl hM.o hM.f7 ?_
      refine V.aload_n (pc := 266) dX12_next_266 rfl ?_
      refine V.getI (pc := 267) dX12_next_267 fX12_148_11 rfl hM.o ?_
      rw [e10]
      refine V.iald' (k := f0 + k) (pc := 270) dX12_next_270 hM.t7 rfl (by omega) (by decide) ?_
      rw [a4 (f0 + k) (by omega)]
      refine V.pS (as := [_]) (pc := 271) dX12_next_271 lX12_168 bX12_isDigit sX12_isDigit (c_isDigit (d := d + 0) _) (by omega) rfl (Nat.le_of_ble_eq_true rfl) ?_
      rw [bi_c (dg_iff b1)]
      refine V.if_eq 335 (pc := 274) dX12_next_274 (by decide) (fun h274 => ?_) (fun h274 => ?_)
      · have hz1 := bi_eq.mp h274
        have hz : scn (isDg tt) (N - f0) f0 = f0 + k := by rw [← hs]; exact scn_n hz1
        exact kk I' J' hi e9 e11 (by rw [hz]; exact e10) (by rw [hz, Nat.add_sub_cancel_left]; exact e12)
      · have hz1 := bi_ne.mp h274
        have hz2 := of_decide_eq_true hz1
        refine V.aload_n (pc := 277) dX12_next_277 rfl ?_
        refine V.aload_n (pc := 278) dX12_next_278 rfl ?_
        refine V.getJ (pc := 279) dX12_next_279 fX12_161_11 rfl hM.o ?_
        rw [e12]
        refine V.ldc2 (pc := 282) dX12_next_282 qX12_105 ?_
        refine V.lcmp_le 296 (pc := 285) dX12_next_285 dX12_next_286 (by decide) (fun h285 => ?_) (fun h285 => ?_)
        · rw [show (1000000 : Int64) = lN 1000000 from rfl, lN_leL (by omega) (by decide)] at h285
          refine V.aload_n (pc := 296) dX12_next_296 rfl ?_
          refine V.getJ (pc := 297) dX12_next_297 fX12_161_11 rfl hM.o ?_
          rw [e12]
          refine V.ldc2 (pc := 300) dX12_next_300 qX12_180 ?_
          refine V.lmul (pc := 303) dX12_next_303 ?_
          refine V.aload_n (pc := 304) dX12_next_304 rfl ?_
          refine V.getR (pc := 305) dX12_next_305 fX12_23_11 rfl hM.o hM.f7 ?_
          refine V.aload_n (pc := 308) dX12_next_308 rfl ?_
          refine V.getI (pc := 309) dX12_next_309 fX12_148_11 rfl hM.o ?_
          rw [e10]
          refine V.iald' (k := f0 + k) (pc := 312) dX12_next_312 hM.t7 rfl (by omega) (by decide) ?_
          rw [a4 (f0 + k) (by omega)]
          refine V.i2l (pc := 313) dX12_next_313 ?_
          rw [nI_l (by omega)]
          refine V.ladd (pc := 314) dX12_next_314 ?_
          refine V.ldc2 (pc := 315) dX12_next_315 qX12_182 ?_
          refine V.lsub (pc := 318) dX12_next_318 ?_
          rw [dgt_step hz2.1 (by omega)]
          refine V.putJ (pc := 319) dX12_next_319 fX12_161_11 (fun r h => by cases h; exact Or.inl rfl) rfl hM.o ?_
          refine V.aload_n (pc := 322) dX12_next_322 rfl ?_
          refine V.dup (pc := 323) dX12_next_323 rfl ?_
          refine V.getI (pc := 324) dX12_next_324 fX12_148_11 rfl hM.o ?_
          rw [e10]
          refine V.iconst (v := 1) (pc := 327) dX12_next_327 (by decide) ?_
          refine V.iadd (pc := 328) dX12_next_328 ?_
          rw [nI_1]
          refine V.putI (pc := 329) dX12_next_329 fX12_148_11 (fun r h => by cases h; exact Or.inl rfl) rfl hM.o ?_
          refine V.goto 243 (pc := 332) dX12_next_332 (by decide) ?_
          exact ih (k + 1) _ _ (by omega) (by omega) (by rw [← hs, scn_y (by omega) hz1]; rfl) (hi.j.i (by omega)) (by rw [up2_ne (by omega)]; exact e9) (by rw [up2_ne (by omega)]; exact e11) up2_same up2_same
        · rw [show (1000000 : Int64) = lN 1000000 from rfl, lN_leL (by omega) (by decide)] at h285
          refine V.aload_n (pc := 289) dX12_next_289 rfl ?_
          refine V.getJ (pc := 290) dX12_next_290 fX12_161_11 rfl hM.o ?_
          rw [e12]
          refine V.goto 319 (pc := 293) dX12_next_293 (by decide) ?_
          refine V.putJ (pc := 319) dX12_next_319 fX12_161_11 (fun r h => by cases h; exact Or.inl rfl) rfl hM.o ?_
          refine V.aload_n (pc := 322) dX12_next_322 rfl ?_
          refine V.dup (pc := 323) dX12_next_323 rfl ?_
          refine V.getI (pc := 324) dX12_next_324 fX12_148_11 rfl hM.o ?_
          rw [e10]
          refine V.iconst (v := 1) (pc := 327) dX12_next_327 (by decide) ?_
          refine V.iadd (pc := 328) dX12_next_328 ?_
          rw [nI_1]
          refine V.putI (pc := 329) dX12_next_329 fX12_148_11 (fun r h => by cases h; exact Or.inl rfl) rfl hM.o ?_
          refine V.goto 243 (pc := 332) dX12_next_332 (by decide) ?_
          exact ih (k + 1) _ _ (by omega) (by omega) (by rw [← hs, scn_y (by omega) hz1]; rfl) (hi.j.i (by omega)) (by rw [up2_ne (by omega)]; exact e9) (by rw [up2_ne (by omega)]; exact e11) up2_same (by rw [up2_same, dvR, if_pos (by omega)])
def TkM (tt : Nat → Nat) (N i : Nat) (I : mI) (J : mJ) (m : Nat) : Prop := I m 9 = nI (frT tt N i) ∧ I m 10 = nI (posT tt N (i + 1)) ∧ I m 11 = nI (srtT tt N i) ∧ J m 12 = lI (wrtT tt N i)
theorem srt0 {t : Nat → Nat} {n i : Nat} (h : frT t n i = n) : srtT t n i = 0 ∧ wrtT t n i = 0 := by unfold srtT wrtT; rw [if_pos (by omega), if_pos (by omega)]; exact ⟨rfl, rfl⟩
theorem srt1 {t : Nat → Nat} {n i : Nat} (h : frT t n i < n) (h1 : isSm t (frT t n i) = true) : srtT t n i = 1 ∧ wrtT t n i = (if posT t n (i + 1) - frT t n i ≤ 10 then (wcd (wlr t (frT t n i) (posT t n (i + 1) - frT t n i)) : Int) else -1) := by
  have hn : ¬ n ≤ frT t n i := by omega
  exact ⟨by unfold srtT; rw [if_neg hn, if_pos h1], by unfold wrtT; rw [if_neg hn, if_pos h1]⟩
theorem srt2 {t : Nat → Nat} {n i : Nat} (h : frT t n i < n) (h1 : ¬ isSm t (frT t n i) = true) (h2 : isDg t (frT t n i) = true) : srtT t n i = 2 ∧ wrtT t n i = (dvR t (frT t n i) (posT t n (i + 1) - frT t n i) : Int) := by
  have hn : ¬ n ≤ frT t n i := by omega
  exact ⟨by unfold srtT; rw [if_neg hn, if_neg h1, if_pos h2], by unfold wrtT; rw [if_neg hn, if_neg h1, if_pos h2]⟩
theorem srt3 {t : Nat → Nat} {n i : Nat} (h : frT t n i < n) (h1 : ¬ isSm t (frT t n i) = true) (h2 : ¬ isDg t (frT t n i) = true) : srtT t n i = 3 ∧ wrtT t n i = (t (frT t n i) : Int) := by
  have hn : ¬ n ≤ frT t n i := by omega
  exact ⟨by unfold srtT; rw [if_neg hn, if_neg h1, if_neg h2], by unfold wrtT; rw [if_neg hn, if_neg h1, if_neg h2]⟩
theorem c_next {g : gG} {d : Nat} {T : mT} {n : Nat} {I : mI} {J : mJ} {F : mF} {m N i : Nat} {tt : Nat → Nat} (hM : MS T F m) (hT : TpM tt N I m) (h10 : I m 10 = nI (posT tt N i)) : Ct g mX12_next (d + 1) [.ref m] 0 0 T n I J F (fun r' T' n' I' J' F' => r' = none ∧ T' = T ∧ n' = n ∧ F' = F ∧ NxF m I J I' J' ∧ TkM tt N i I' J' m) := by
  refine Ct.ofV (k := 0) (by decide) (Nat.le_of_ble_eq_true rfl) ?_
  show V g mX12_next (d + 1) _ 0 0 0 [some (.ref m)] [] T n I J F
  refine V.aload_n (pc := 0) dX12_next_0 rfl ?_
  refine V.aload_n (pc := 1) dX12_next_1 rfl ?_
  refine V.getI (pc := 2) dX12_next_2 fX12_148_11 rfl hM.o ?_
  rw [h10]
  refine V.putI (pc := 5) dX12_next_5 fX12_158_11 (fun r h => by cases h; exact Or.inl rfl) rfl hM.o ?_
  refine l_nx1 (N := N) (p0 := posT tt N i) (tt := tt) (I := I) hM hT (fun I1 f1 g9 => ?_) _ (posT tt N i) _ (Nat.lt_succ_self _) (posT_le i) rfl (NxF.rf.i (by omega)) up2_same
  have hT1 := f1.tp hT
  obtain ⟨a1, a2, a3, a4⟩ := hT1
  have hfr : skp tt N (posT tt N i) = frT tt N i := rfl
  rw [hfr] at g9
  have hfb := frT_bd (t := tt) (n := N) i
  refine V.aload_n (pc := 46) dX12_next_46 rfl ?_
  refine V.aload_n (pc := 47) dX12_next_47 rfl ?_
  refine V.getI (pc := 48) dX12_next_48 fX12_158_11 rfl hM.o ?_
  rw [g9]
  refine V.putI (pc := 51) dX12_next_51 fX12_148_11 (fun r h => by cases h; exact Or.inl rfl) rfl hM.o ?_
  refine V.aload_n (pc := 54) dX12_next_54 rfl ?_
  refine V.lconst (v := 0) (pc := 55) dX12_next_55 (by decide) ?_
  refine V.putJ (pc := 56) dX12_next_56 fX12_161_11 (fun r h => by cases h; exact Or.inl rfl) rfl hM.o ?_
  refine V.aload_n (pc := 59) dX12_next_59 rfl ?_
  refine V.aload_n (pc := 60) dX12_next_60 rfl ?_
  refine V.getI (pc := 61) dX12_next_61 fX12_158_11 rfl hM.o ?_
  rw [up2_ne (by omega), g9]
  refine V.aload_n (pc := 64) dX12_next_64 rfl ?_
  refine V.getI (pc := 65) dX12_next_65 fX12_138_11 rfl hM.o ?_
  rw [up2_ne (by omega), a3]
  refine V.icmp_ne 75 (pc := 68) dX12_next_68 (by decide) (fun h68 => ?_) (fun h68 => ?_)
  · have h68b : ¬ frT tt N i = N := fun z => h68 (by rw [z])
    have hfl : frT tt N i < N := by omega
    have b1 := a2 (frT tt N i)
    refine V.aload_n (pc := 75) dX12_next_75 rfl ?_
    refine V.getR (pc := 76) dX12_next_76 fX12_23_11 rfl hM.o hM.f7 ?_
    refine V.aload_n (pc := 79) dX12_next_79 rfl ?_
    refine V.getI (pc := 80) dX12_next_80 fX12_158_11 rfl hM.o ?_
    rw [up2_ne (by omega), g9]
    refine V.iald' (k := frT tt N i) (pc := 83) dX12_next_83 hM.t7 rfl (by omega) (by decide) ?_
    rw [up2_off (by omega), a4 _ hfl]
    refine V.pS (as := [_]) (pc := 84) dX12_next_84 lX12_165 bX12_isSmall sX12_isSmall (c_isSmall (d := d + 0) _) (by omega) rfl (Nat.le_of_ble_eq_true rfl) ?_
    rw [bi_c (sm_iff b1)]
    refine V.if_eq 94 (pc := 87) dX12_next_87 (by decide) (fun h87 => ?_) (fun h87 => ?_)
    · refine V.aload_n (pc := 94) dX12_next_94 rfl ?_
      refine V.getR (pc := 95) dX12_next_95 fX12_23_11 rfl hM.o hM.f7 ?_
      refine V.aload_n (pc := 98) dX12_next_98 rfl ?_
      refine V.getI (pc := 99) dX12_next_99 fX12_158_11 rfl hM.o ?_
      rw [up2_ne (by omega), g9]
      refine V.iald' (k := frT tt N i) (pc := 102) dX12_next_102 hM.t7 rfl (by omega) (by decide) ?_
      rw [up2_off (by omega), a4 _ hfl]
      refine V.pS (as := [_]) (pc := 103) dX12_next_103 lX12_168 bX12_isDigit sX12_isDigit (c_isDigit (d := d + 0) _) (by omega) rfl (Nat.le_of_ble_eq_true rfl) ?_
      rw [bi_c (dg_iff b1)]
      refine V.if_eq 113 (pc := 106) dX12_next_106 (by decide) (fun h106 => ?_) (fun h106 => ?_)
      · refine V.iconst (v := 3) (pc := 113) dX12_next_113 (by decide) ?_
        refine V.putI (pc := 114) dX12_next_114 fX12_171_11 (fun r h => by cases h; exact Or.inl rfl) rfl hM.o ?_
        refine V.aload_n (pc := 117) dX12_next_117 rfl ?_
        refine V.getI (pc := 118) dX12_next_118 fX12_171_11 rfl hM.o ?_
        rw [up2_same]
        refine V.iconst (v := 3) (pc := 121) dX12_next_121 (by decide) ?_
        refine V.icmp_ne 149 (pc := 122) dX12_next_122 (by decide) (fun h122 => absurd rfl h122) (fun h122 => ?_)
        refine V.aload_n (pc := 125) dX12_next_125 rfl ?_
        refine V.aload_n (pc := 126) dX12_next_126 rfl ?_
        refine V.getR (pc := 127) dX12_next_127 fX12_23_11 rfl hM.o hM.f7 ?_
        refine V.aload_n (pc := 130) dX12_next_130 rfl ?_
        refine V.getI (pc := 131) dX12_next_131 fX12_158_11 rfl hM.o ?_
        rw [up2_ne (by omega), up2_ne (by omega), g9]
        refine V.iald' (k := frT tt N i) (pc := 134) dX12_next_134 hM.t7 rfl (by omega) (by decide) ?_
        rw [up2_off (by omega), up2_off (by omega), a4 _ hfl]
        refine V.i2l (pc := 135) dX12_next_135 ?_
        rw [nI_l (by omega)]
        refine V.putJ (pc := 136) dX12_next_136 fX12_161_11 (fun r h => by cases h; exact Or.inl rfl) rfl hM.o ?_
        refine V.aload_n (pc := 139) dX12_next_139 rfl ?_
        refine V.dup (pc := 140) dX12_next_140 rfl ?_
        refine V.getI (pc := 141) dX12_next_141 fX12_148_11 rfl hM.o ?_
        rw [up2_ne (by omega), up2_same]
        refine V.iconst (v := 1) (pc := 144) dX12_next_144 (by decide) ?_
        refine V.iadd (pc := 145) dX12_next_145 ?_
        refine V.putI (pc := 146) dX12_next_146 fX12_148_11 (fun r h => by cases h; exact Or.inl rfl) rfl hM.o ?_
        refine V.aload_n (pc := 149) dX12_next_149 rfl ?_
        refine V.getI (pc := 150) dX12_next_150 fX12_171_11 rfl hM.o ?_
        rw [up2_ne (by omega), up2_same]
        refine V.iconst (v := 1) (pc := 153) dX12_next_153 (by decide) ?_
        refine V.icmp_ne 243 (pc := 154) dX12_next_154 (by decide) (fun h154 => ?_) (fun h154 => absurd h154 (by decide))
        refine V.aload_n (pc := 243) dX12_next_243 rfl ?_
        refine V.getI (pc := 244) dX12_next_244 fX12_171_11 rfl hM.o ?_
        rw [up2_ne (by omega), up2_same]
        refine V.iconst (v := 2) (pc := 247) dX12_next_247 (by decide) ?_
        refine V.icmp_ne 335 (pc := 248) dX12_next_248 (by decide) (fun h248 => ?_) (fun h248 => absurd h248 (by decide))
        have hsm : ¬ isSm tt (frT tt N i) = true := bi_eq.mp h87
        have hdg : ¬ isDg tt (frT tt N i) = true := bi_eq.mp h106
        exact V.vret (pc := 335) dX12_next_335 rfl ⟨rfl, rfl, rfl, rfl, ((((f1.i (by omega)).j).i (by omega)).j).i (by omega), by (simp (disch := omega) only [up2_off, up2_ne, up2_same]); exact g9, by (simp (disch := omega) only [up2_off, up2_ne, up2_same]); rw [nI_1, posT_sign hfl hsm hdg], by (simp (disch := omega) only [up2_off, up2_ne, up2_same]); rw [(srt3 hfl hsm hdg).1]; rfl, by (simp (disch := omega) only [up2_off, up2_ne, up2_same]); rw [(srt3 hfl hsm hdg).2, lI_nat]⟩
      · refine V.iconst (v := 2) (pc := 109) dX12_next_109 (by decide) ?_
        refine V.goto 114 (pc := 110) dX12_next_110 (by decide) ?_
        refine V.putI (pc := 114) dX12_next_114 fX12_171_11 (fun r h => by cases h; exact Or.inl rfl) rfl hM.o ?_
        refine V.aload_n (pc := 117) dX12_next_117 rfl ?_
        refine V.getI (pc := 118) dX12_next_118 fX12_171_11 rfl hM.o ?_
        rw [up2_same]
        refine V.iconst (v := 3) (pc := 121) dX12_next_121 (by decide) ?_
        refine V.icmp_ne 149 (pc := 122) dX12_next_122 (by decide) (fun h122 => ?_) (fun h122 => absurd h122 (by decide))
        refine V.aload_n (pc := 149) dX12_next_149 rfl ?_
        refine V.getI (pc := 150) dX12_next_150 fX12_171_11 rfl hM.o ?_
        rw [up2_same]
        refine V.iconst (v := 1) (pc := 153) dX12_next_153 (by decide) ?_
        refine V.icmp_ne 243 (pc := 154) dX12_next_154 (by decide) (fun h154 => ?_) (fun h154 => absurd h154 (by decide))
        have hsm : ¬ isSm tt (frT tt N i) = true := bi_eq.mp h87
        have hdg : isDg tt (frT tt N i) = true := bi_ne.mp h106
        refine l_nx3 (I := up2 (up2 I1 m 10 (nI (frT tt N i))) m 11 2) (J := up2 J m 12 0) (f0 := frT tt N i) (N := N) (tt := tt) hM (((f1.i (by omega)).i (by omega)).tp hT) (by (simp (disch := omega) only [up2_off, up2_ne, up2_same]); exact g9) up2_same hfb.2 (fun I2 J2 f2 k9 k11 k10 k12 => ?_) _ 0 _ _ (Nat.lt_succ_self _) hfb.2 rfl NxF.rf (by (simp (disch := omega) only [up2_off, up2_ne, up2_same]); exact g9) up2_same (by first | ((simp (disch := omega) only [up2_off, up2_ne, up2_same]); done) | ((simp (disch := omega) only [up2_off, up2_ne, up2_same]); rfl)) (by first | ((simp (disch := omega) only [up2_off, up2_ne, up2_same]); done) | ((simp (disch := omega) only [up2_off, up2_ne, up2_same]); rfl))
        exact V.vret (pc := 335) dX12_next_335 rfl ⟨rfl, rfl, rfl, rfl, (((f1.i (by omega)).j).i (by omega)).tr f2, k9, by rw [k10, posT_num hfl hsm hdg], by rw [k11, (srt2 hfl hsm hdg).1]; rfl, by rw [k12, (srt2 hfl hsm hdg).2, posT_num hfl hsm hdg, lI_nat]⟩
    · refine V.iconst (v := 1) (pc := 90) dX12_next_90 (by decide) ?_
      refine V.goto 114 (pc := 91) dX12_next_91 (by decide) ?_
      refine V.putI (pc := 114) dX12_next_114 fX12_171_11 (fun r h => by cases h; exact Or.inl rfl) rfl hM.o ?_
      refine V.aload_n (pc := 117) dX12_next_117 rfl ?_
      refine V.getI (pc := 118) dX12_next_118 fX12_171_11 rfl hM.o ?_
      rw [up2_same]
      refine V.iconst (v := 3) (pc := 121) dX12_next_121 (by decide) ?_
      refine V.icmp_ne 149 (pc := 122) dX12_next_122 (by decide) (fun h122 => ?_) (fun h122 => absurd h122 (by decide))
      have hsm : isSm tt (frT tt N i) = true := bi_ne.mp h87
      refine l_nx2 (I := up2 (up2 I1 m 10 (nI (frT tt N i))) m 11 1) (J := up2 J m 12 0) (f0 := frT tt N i) (N := N) (tt := tt) hM (((f1.i (by omega)).i (by omega)).tp hT) (by (simp (disch := omega) only [up2_off, up2_ne, up2_same]); exact g9) up2_same hfb.2 (fun I2 J2 f2 k9 k11 k10 k12 => ?_) _ 0 _ _ (Nat.lt_succ_self _) hfb.2 rfl NxF.rf (by (simp (disch := omega) only [up2_off, up2_ne, up2_same]); exact g9) up2_same (by first | ((simp (disch := omega) only [up2_off, up2_ne, up2_same]); done) | ((simp (disch := omega) only [up2_off, up2_ne, up2_same]); rfl)) (by first | ((simp (disch := omega) only [up2_off, up2_ne, up2_same]); done) | ((simp (disch := omega) only [up2_off, up2_ne, up2_same]); rfl))
      refine V.aload_n (pc := 243) dX12_next_243 rfl ?_
      refine V.getI (pc := 244) dX12_next_244 fX12_171_11 rfl hM.o ?_
      rw [k11]
      refine V.iconst (v := 2) (pc := 247) dX12_next_247 (by decide) ?_
      refine V.icmp_ne 335 (pc := 248) dX12_next_248 (by decide) (fun _ => ?_) (fun h248 => absurd h248 (by decide))
      exact V.vret (pc := 335) dX12_next_335 rfl ⟨rfl, rfl, rfl, rfl, (((f1.i (by omega)).j).i (by omega)).tr f2, k9, by rw [k10, posT_word hfl hsm], by rw [k11, (srt1 hfl hsm).1]; rfl, by rw [k12, (srt1 hfl hsm).2, posT_word hfl hsm]⟩
  · rw [nI_eq (by omega) (by omega)] at h68
    refine V.iconst (v := 0) (pc := 71) dX12_next_71 (by decide) ?_
    refine V.goto 114 (pc := 72) dX12_next_72 (by decide) ?_
    refine V.putI (pc := 114) dX12_next_114 fX12_171_11 (fun r h => by cases h; exact Or.inl rfl) rfl hM.o ?_
    refine V.aload_n (pc := 117) dX12_next_117 rfl ?_
    refine V.getI (pc := 118) dX12_next_118 fX12_171_11 rfl hM.o ?_
    rw [up2_same]
    refine V.iconst (v := 3) (pc := 121) dX12_next_121 (by decide) ?_
    refine V.icmp_ne 149 (pc := 122) dX12_next_122 (by decide) (fun h122 => ?_) (fun h122 => absurd h122 (by decide))
    refine V.aload_n (pc := 149) dX12_next_149 rfl ?_
    refine V.getI (pc := 150) dX12_next_150 fX12_171_11 rfl hM.o ?_
    rw [up2_same]
    refine V.iconst (v := 1) (pc := 153) dX12_next_153 (by decide) ?_
    refine V.icmp_ne 243 (pc := 154) dX12_next_154 (by decide) (fun h154 => ?_) (fun h154 => absurd h154 (by decide))
    refine V.aload_n (pc := 243) dX12_next_243 rfl ?_
    refine V.getI (pc := 244) dX12_next_244 fX12_171_11 rfl hM.o ?_
    rw [up2_same]
    refine V.iconst (v := 2) (pc := 247) dX12_next_247 (by decide) ?_
    refine V.icmp_ne 335 (pc := 248) dX12_next_248 (by decide) (fun h248 => ?_) (fun h248 => absurd h248 (by decide))
    have hfe : frT tt N i = N := by omega
    exact V.vret (pc := 335) dX12_next_335 rfl ⟨rfl, rfl, rfl, rfl, ((f1.i (by omega)).j).i (by omega), by (simp (disch := omega) only [up2_off, up2_ne, up2_same]); exact g9, by (simp (disch := omega) only [up2_off, up2_ne, up2_same]); rw [posT_end hfe, hfe], by (simp (disch := omega) only [up2_off, up2_ne, up2_same]); rw [(srt0 hfe).1]; rfl, by (simp (disch := omega) only [up2_off, up2_ne, up2_same]); rw [(srt0 hfe).2]; rfl⟩
