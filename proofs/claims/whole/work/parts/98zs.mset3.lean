-- set: the walk of the reference
def knA (ks : List (Nat → Nat)) (h k : Nat) : Nat := match ks[k]? with
  | some f => f h
  | none => 0
def SetS (A : Ab) (x m1 z m2 dd w r : Int) : Prop := match hdAt (cor A) x, hdAt (cor A) z with
  | some y1, some y2 => if (x ≠ z ∧ (0 ≤ dd ∧ dd ≤ 1000000)) ∧ (0 ≤ w ∧ w ≤ (kns (cor A)).length) ∧ (0 ≤ m1 ∧ m1 < y1.1) ∧ (0 ≤ m2 ∧ m2 < y2.1) then SetR y1.1 y2.1 (kns (cor A)).length (knA (kns (cor A)) x.toNat) (knA (kns (cor A)) z.toNat) (markD y1 dd.toNat * y2.1 + markD y2 dd.toNat) (m1.toNat * y2.1 + m2.toNat) w.toNat r else r = -1
  | _, _ => r = -1
theorem i_dec {k : Nat} (h : 0 < k) : nI k + (-1) = nI (k - 1) := by
  rw [show (-1 : Int32) = iI (-1) from rfl, ← iI_nat, ← iI_nat, iI_add]
  congr 1
  omega
theorem DP.fin {W H K : Nat} {a b : Nat → Nat} {p aim n : Nat} (h : DP W H K a b 0 aim p n) : ∃ L, IsL W H K a b p aim L ∧ tot L = n := by
  obtain ⟨t, t1, t2, t3⟩ := h.1
  obtain ⟨L, hL⟩ := isL_ex t t1 t2
  refine ⟨L, hL, ?_⟩
  have h1 := h.2 L hL.1 hL.2.1
  have h2 : tot L ≤ tot t := by
    rcases hL.2.2 t t1 t2 with e | e
    · exact Nat.le_of_eq (congrArg tot e)
    · unfold lt4 at e; omega
  omega
theorem g_le {L : V4} {j : Nat} (hj : j < 4) : v4g L j ≤ tot L := by rcases q4c hj with rfl | rfl | rfl | rfl <;> simp only [v4g, tot] <;> simp <;> omega
theorem pre_le {L : V4} {j x : Nat} (hj : j < 4) (hx : x ≤ v4g L j) : tot (preV L j x) ≤ tot L := by rcases q4c hj with rfl | rfl | rfl | rfl <;> simp only [preV, v4g, tot] at * <;> simp at * <;> omega
theorem l_wc {g : gG} {d : Nat} {T : mT} {n : Nat} {I : mI} {J : mJ} {F : mF} {Q : mQ} {m h1 h2 aim W H K st w : Nat} {a b : Nat → Nat} {L : V4} {v2 v4 v5 v11 : Int32} {j : Nat} (hM : MS T F m) (hW : 0 < W ∧ W ≤ 400) (hH : 0 < H ∧ H ≤ 400) (hK : K ≤ 4) (hh : h1 < 6 ∧ h2 < 6) (hab : ∀ k, k < K → a k ≤ 9 ∧ b k ≤ 9) (hkn : ∀ k, k < K → I (m + 2) (124 + 6 * k + h1) = nI (a k) ∧ I (m + 2) (124 + 6 * k + h2) = nI (b k)) (hP : ∀ i, i ≤ K → PFm W H K a b m i aim I) (hL : IsL W H K a b st aim L) (hLt : tot L ≤ 160000) (hwK : w ≤ K) (hj : j < w) (kk : V g mX12_set (d + 4) Q 0 0 307 [some (.ref m), some (.int (nI h1)), some (.int v2), some (.int (nI h2)), some (.int v4), some (.int v5), some (.int (nI w)), some (.int (nI W)), some (.int (nI H)), some (.int (nI ((plc W H a b st (preV L j (v4g L j))) / H))), some (.int (nI ((plc W H a b st (preV L j (v4g L j))) % H))), some (.int v11), some (.int (nI (tot L - tot (preV L j (v4g L j))))), some (.int (nI (v4g L j))), some (.int (nI (j)))] [] T n I J F) : ∀ (t x : Nat), x + t = v4g L j → V g mX12_set (d + 4) Q 0 0 226 [some (.ref m), some (.int (nI h1)), some (.int v2), some (.int (nI h2)), some (.int v4), some (.int v5), some (.int (nI w)), some (.int (nI W)), some (.int (nI H)), some (.int (nI ((plc W H a b st (preV L j (x))) / H))), some (.int (nI ((plc W H a b st (preV L j (x))) % H))), some (.int v11), some (.int (nI (tot L - tot (preV L j x)))), some (.int (nI x)), some (.int (nI (j)))] [] T n I J F := by
  have hWH : W * H ≤ 400 * 400 := Nat.mul_le_mul hW.2 hH.2
  have hj4 : j < 4 := by omega
  intro t
  induction t with
  | zero =>
    intro x hx
    obtain rfl : x = v4g L j := by omega
    have pl := plc_lt (a := a) (b := b) hW.1 hH.1 st (preV L j (v4g L j))
    obtain ⟨d1, d2⟩ := dv_lt pl
    have hd := walk_y hW.1 hH.1 hL hj4
    obtain ⟨nn, q1, q2, q3⟩ := (hP (j + 1) (by omega) _ pl).resolve_right (fun z => by
      obtain ⟨u, u1, u2, -⟩ := hd.1
      exact z.2 u u1 u2)
    have eN := q3.uni hd
    refine V.aload_n (pc := 226) dX12_set_226 rfl ?_
    refine V.getR (pc := 227) dX12_set_227 fX12_75_11 rfl hM.o hM.f38 ?_
    refine V.ldc (pc := 230) dX12_set_230 qX12_78 ?_
    refine V.iload (pc := 232) dX12_set_232 rfl ?_
    refine V.iconst (v := 1) (pc := 234) dX12_set_234 (by decide) ?_
    refine V.iadd (pc := 235) dX12_set_235 ?_
    refine V.imul (pc := 236) dX12_set_236 ?_
    refine V.iload (pc := 237) dX12_set_237 rfl ?_
    refine V.iload (pc := 239) dX12_set_239 rfl ?_
    refine V.imul (pc := 241) dX12_set_241 ?_
    refine V.iadd (pc := 242) dX12_set_242 ?_
    refine V.iload (pc := 243) dX12_set_243 rfl ?_
    refine V.iadd (pc := 245) dX12_set_245 ?_
    refine V.iald' (k := 160000 * (j + 1) + (plc W H a b st (preV L j (v4g L j)))) (pc := 246) dX12_set_246 hM.t38 (by rw [show (160000 : Int32) = nI 160000 from rfl, nI_1, pk_mul, pk_mul, nI_add, nI_add, Nat.add_assoc, dvE]) (by omega) (by decide) ?_
    rw [q1, eN]
    refine V.iload (pc := 247) dX12_set_247 rfl ?_
    refine V.icmp_eq 307 (pc := 249) dX12_set_249 (by decide) (fun h249 => ?_) (fun h249 => absurd rfl h249)
    exact kk
  | succ t ih =>
    intro x hx
    have pl := plc_lt (a := a) (b := b) hW.1 hH.1 st (preV L j x)
    obtain ⟨d1, d2⟩ := dv_lt pl
    obtain ⟨w1, w2⟩ := walk_n hW.1 hH.1 hL hj4 (show x < v4g L j by omega)
    obtain ⟨ka, kb⟩ := hab j (by omega)
    have eS : plc W H a b st (preV L j (x + 1)) = stp4 W H a b j (plc W H a b st (preV L j x)) := by rw [pre_inc hj4, plc_in hW.1 hH.1 hj4]
    have eT : tot (preV L j (x + 1)) = tot (preV L j x) + 1 := by rw [pre_inc hj4, tot_inc hj4]
    have hv : ∃ nn, I (m + 17) (160000 * (j + 1) + plc W H a b st (preV L j x)) = nI nn ∧ nn ≤ 1000000000 ∧ nn ≠ tot L - tot (preV L j x) := by
      rcases hP (j + 1) (by omega) _ pl with ⟨nn, q1, q2, q3⟩ | ⟨q1, -⟩
      · exact ⟨nn, q1, by omega, fun z => w2 (by rw [← z]; exact q3)⟩
      · exact ⟨_, q1, Nat.le_refl _, by omega⟩
    obtain ⟨nn, q1, q2, q3⟩ := hv
    obtain ⟨s1, s2⟩ := dvH (x := (plc W H a b st (preV L j x) / H + a j) % W) (Nat.mod_lt (plc W H a b st (preV L j x) % H + b j) hH.1)
    refine V.aload_n (pc := 226) dX12_set_226 rfl ?_
    refine V.getR (pc := 227) dX12_set_227 fX12_75_11 rfl hM.o hM.f38 ?_
    refine V.ldc (pc := 230) dX12_set_230 qX12_78 ?_
    refine V.iload (pc := 232) dX12_set_232 rfl ?_
    refine V.iconst (v := 1) (pc := 234) dX12_set_234 (by decide) ?_
    refine V.iadd (pc := 235) dX12_set_235 ?_
    refine V.imul (pc := 236) dX12_set_236 ?_
    refine V.iload (pc := 237) dX12_set_237 rfl ?_
    refine V.iload (pc := 239) dX12_set_239 rfl ?_
    refine V.imul (pc := 241) dX12_set_241 ?_
    refine V.iadd (pc := 242) dX12_set_242 ?_
    refine V.iload (pc := 243) dX12_set_243 rfl ?_
    refine V.iadd (pc := 245) dX12_set_245 ?_
    refine V.iald' (k := 160000 * (j + 1) + (plc W H a b st (preV L j (x)))) (pc := 246) dX12_set_246 hM.t38 (by rw [show (160000 : Int32) = nI 160000 from rfl, nI_1, pk_mul, pk_mul, nI_add, nI_add, Nat.add_assoc, dvE]) (by omega) (by decide) ?_
    rw [q1]
    refine V.iload (pc := 247) dX12_set_247 rfl ?_
    refine V.icmp_eq 307 (pc := 249) dX12_set_249 (by decide) (fun h249 => absurd h249 (fun z => q3 ((nI_eq (by omega) (by omega)).mp z))) (fun h249 => ?_)
    refine V.iload (pc := 252) dX12_set_252 rfl ?_
    refine V.aload_n (pc := 254) dX12_set_254 rfl ?_
    refine V.getR (pc := 255) dX12_set_255 fX12_13_11 rfl hM.o hM.f3 ?_
    refine V.bipush (v := 124) (pc := 258) dX12_set_258 (by decide) ?_
    refine V.bipush (v := 6) (pc := 260) dX12_set_260 (by decide) ?_
    refine V.iload (pc := 262) dX12_set_262 rfl ?_
    refine V.imul (pc := 264) dX12_set_264 ?_
    refine V.iadd (pc := 265) dX12_set_265 ?_
    refine V.iload_n (pc := 266) dX12_set_266 rfl ?_
    refine V.iadd (pc := 267) dX12_set_267 ?_
    refine V.iald' (k := 124 + 6 * j + h1) (pc := 268) dX12_set_268 hM.t3 (by rw [show (124 : Int32) = nI 124 from rfl, show (6 : Int32) = nI 6 from rfl, pk_mul, nI_add, nI_add]) (by omega) (by decide) ?_
    rw [(hkn j (by omega)).1]
    refine V.iadd (pc := 269) dX12_set_269 ?_
    rw [nI_add]
    refine V.iload (pc := 270) dX12_set_270 rfl ?_
    refine V.irem (pc := 272) dX12_set_272 (nI_nz (by omega) (by omega)) ?_
    rw [nI_irem (by omega) (by omega) (by omega)]
    refine V.is (pc := 273) dX12_set_273 (by decide) (st1_9 rfl) ?_
    refine V.iload (pc := 275) dX12_set_275 rfl ?_
    refine V.aload_n (pc := 277) dX12_set_277 rfl ?_
    refine V.getR (pc := 278) dX12_set_278 fX12_13_11 rfl hM.o hM.f3 ?_
    refine V.bipush (v := 124) (pc := 281) dX12_set_281 (by decide) ?_
    refine V.bipush (v := 6) (pc := 283) dX12_set_283 (by decide) ?_
    refine V.iload (pc := 285) dX12_set_285 rfl ?_
    refine V.imul (pc := 287) dX12_set_287 ?_
    refine V.iadd (pc := 288) dX12_set_288 ?_
    refine V.iload_n (pc := 289) dX12_set_289 rfl ?_
    refine V.iadd (pc := 290) dX12_set_290 ?_
    refine V.iald' (k := 124 + 6 * j + h2) (pc := 291) dX12_set_291 hM.t3 (by rw [show (124 : Int32) = nI 124 from rfl, show (6 : Int32) = nI 6 from rfl, pk_mul, nI_add, nI_add]) (by omega) (by decide) ?_
    rw [(hkn j (by omega)).2]
    refine V.iadd (pc := 292) dX12_set_292 ?_
    rw [nI_add]
    refine V.iload (pc := 293) dX12_set_293 rfl ?_
    refine V.irem (pc := 295) dX12_set_295 (nI_nz (by omega) (by omega)) ?_
    rw [nI_irem (by omega) (by omega) (by omega)]
    refine V.is (pc := 296) dX12_set_296 (by decide) (st1_10 rfl) ?_
    refine V.iinc (v := _ + (-1)) (pc := 298) dX12_set_298 (by decide) rfl rfl (st1_12 rfl) ?_
    refine V.iinc1 (pc := 301) dX12_set_301 (by decide) rfl (st1_13 rfl) ?_
    refine V.goto 226 (pc := 304) dX12_set_304 (by decide) ?_
    rw [nI_1, i_dec (by omega), show tot L - tot (preV L j x) - 1 = tot L - tot (preV L j (x + 1)) by omega]
    have z := ih (x + 1) (by omega)
    rw [eS] at z
    unfold stp4 at z
    rw [s1, s2] at z
    exact z
theorem l_wb {g : gG} {d : Nat} {T : mT} {n : Nat} {I : mI} {J : mJ} {F : mF} {Q : mQ} {m h1 h2 aim W H K st w : Nat} {a b : Nat → Nat} {L : V4} {v2 v4 v5 v11 : Int32} (hM : MS T F m) (hW : 0 < W ∧ W ≤ 400) (hH : 0 < H ∧ H ≤ 400) (hK : K ≤ 4) (hh : h1 < 6 ∧ h2 < 6) (hab : ∀ k, k < K → a k ≤ 9 ∧ b k ≤ 9) (hkn : ∀ k, k < K → I (m + 2) (124 + 6 * k + h1) = nI (a k) ∧ I (m + 2) (124 + 6 * k + h2) = nI (b k)) (hP : ∀ i, i ≤ K → PFm W H K a b m i aim I) (hL : IsL W H K a b st aim L) (hLt : tot L ≤ 160000) (hwK : w ≤ K) (hw0 : 0 < w) (kk : Q (some (.int (nI (v4g L (w - 1))))) T n I J F) : ∀ (t j c lf : Nat) (tm : Int32), j + t = w → (j < w → c = plc W H a b st (preV L j 0) ∧ lf = tot L - tot (preV L j 0)) → (0 < j → tm = nI (v4g L (j - 1))) → V g mX12_set (d + 4) Q 0 0 216 [some (.ref m), some (.int (nI h1)), some (.int v2), some (.int (nI h2)), some (.int v4), some (.int v5), some (.int (nI w)), some (.int (nI W)), some (.int (nI H)), some (.int (nI (c / H))), some (.int (nI (c % H))), some (.int v11), some (.int (nI lf)), some (.int tm), some (.int (nI j))] [] T n I J F := by
  intro t
  induction t with
  | zero =>
    intro j c lf tm hj h1 h2
    obtain rfl : j = w := by omega
    rw [h2 hw0]
    refine V.iload (pc := 216) dX12_set_216 rfl ?_
    refine V.iload (pc := 218) dX12_set_218 rfl ?_
    refine V.icmp_ge 313 (pc := 220) dX12_set_220 (by decide) (fun h220 => ?_) (fun h220 => absurd (nI_le (Nat.le_refl _) (by omega)) h220)
    refine V.iload (pc := 313) dX12_set_313 rfl ?_
    exact V.iret (pc := 315) dX12_set_315 rfl kk
  | succ t ih =>
    intro j c lf tm hj h1 h2
    obtain ⟨e1, e2⟩ := h1 (by omega)
    subst e1 e2
    refine V.iload (pc := 216) dX12_set_216 rfl ?_
    refine V.iload (pc := 218) dX12_set_218 rfl ?_
    refine V.icmp_ge 313 (pc := 220) dX12_set_220 (by decide) (fun h220 => absurd h220 (nI_ge (by omega) (by omega))) (fun h220 => ?_)
    refine V.iconst (v := 0) (pc := 223) dX12_set_223 (by decide) ?_
    refine V.is (pc := 224) dX12_set_224 (by decide) (st1_13 rfl) ?_
    conv => arg 8; rw [L0]
    refine l_wc (I := I) (L := L) (j := j) hM hW hH hK hh hab hkn hP hL hLt hwK (by omega) ?_ (v4g L j) 0 (by omega)
    refine V.iinc1 (pc := 307) dX12_set_307 (by decide) rfl (st1_14 rfl) ?_
    refine V.goto 216 (pc := 310) dX12_set_310 (by decide) ?_
    rw [nI_1]
    exact ih (j + 1) _ _ _ (by omega) (fun z => ⟨by rw [pre_next (by omega)], by rw [pre_next (by omega)]⟩) (fun _ => rfl)
