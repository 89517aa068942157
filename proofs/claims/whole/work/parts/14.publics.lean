theorem dDecreePool_handOver_0 : decode cDecreePool_handOver 0 = .ok (.aload_n 0, 1) := by decide +kernel
theorem dDecreePool_handOver_1 : decode cDecreePool_handOver 1 = .ok (.getfield 25, 3) := by decide +kernel
theorem dDecreePool_handOver_4 : decode cDecreePool_handOver 4 = .ok (.iload_n 1, 1) := by decide +kernel
theorem dDecreePool_handOver_5 : decode cDecreePool_handOver 5 = .ok (.iconst 0, 1) := by decide +kernel
theorem dDecreePool_handOver_6 : decode cDecreePool_handOver 6 = .ok (.invokevirtual 101, 3) := by decide +kernel
theorem dDecreePool_handOver_9 : decode cDecreePool_handOver 9 = .ok (.istore_n 2, 1) := by decide +kernel
theorem dDecreePool_handOver_10 : decode cDecreePool_handOver 10 = .ok (.aload_n 0, 1) := by decide +kernel
theorem dDecreePool_handOver_11 : decode cDecreePool_handOver 11 = .ok (.getfield 25, 3) := by decide +kernel
theorem dDecreePool_handOver_14 : decode cDecreePool_handOver 14 = .ok (.iload_n 1, 1) := by decide +kernel
theorem dDecreePool_handOver_15 : decode cDecreePool_handOver 15 = .ok (.iconst 1, 1) := by decide +kernel
theorem dDecreePool_handOver_16 : decode cDecreePool_handOver 16 = .ok (.invokevirtual 101, 3) := by decide +kernel
theorem dDecreePool_handOver_19 : decode cDecreePool_handOver 19 = .ok (.istore_n 3, 1) := by decide +kernel
theorem dDecreePool_handOver_20 : decode cDecreePool_handOver 20 = .ok (.aload_n 0, 1) := by decide +kernel
theorem dDecreePool_handOver_21 : decode cDecreePool_handOver 21 = .ok (.getfield 25, 3) := by decide +kernel
theorem dDecreePool_handOver_24 : decode cDecreePool_handOver 24 = .ok (.iload_n 1, 1) := by decide +kernel
theorem dDecreePool_handOver_25 : decode cDecreePool_handOver 25 = .ok (.iconst 2, 1) := by decide +kernel
theorem dDecreePool_handOver_26 : decode cDecreePool_handOver 26 = .ok (.invokevirtual 101, 3) := by decide +kernel
theorem dDecreePool_handOver_29 : decode cDecreePool_handOver 29 = .ok (.istore 4, 2) := by decide +kernel
theorem dDecreePool_handOver_31 : decode cDecreePool_handOver 31 = .ok (.aload_n 0, 1) := by decide +kernel
theorem dDecreePool_handOver_32 : decode cDecreePool_handOver 32 = .ok (.getfield 25, 3) := by decide +kernel
theorem dDecreePool_handOver_35 : decode cDecreePool_handOver 35 = .ok (.iload_n 1, 1) := by decide +kernel
theorem dDecreePool_handOver_36 : decode cDecreePool_handOver 36 = .ok (.iconst 3, 1) := by decide +kernel
theorem dDecreePool_handOver_37 : decode cDecreePool_handOver 37 = .ok (.invokevirtual 101, 3) := by decide +kernel
theorem dDecreePool_handOver_40 : decode cDecreePool_handOver 40 = .ok (.istore 5, 2) := by decide +kernel
theorem dDecreePool_handOver_42 : decode cDecreePool_handOver 42 = .ok (.aload_n 0, 1) := by decide +kernel
theorem dDecreePool_handOver_43 : decode cDecreePool_handOver 43 = .ok (.getfield 25, 3) := by decide +kernel
theorem dDecreePool_handOver_46 : decode cDecreePool_handOver 46 = .ok (.iload_n 1, 1) := by decide +kernel
theorem dDecreePool_handOver_47 : decode cDecreePool_handOver 47 = .ok (.iconst 4, 1) := by decide +kernel
theorem dDecreePool_handOver_48 : decode cDecreePool_handOver 48 = .ok (.invokevirtual 101, 3) := by decide +kernel
theorem dDecreePool_handOver_51 : decode cDecreePool_handOver 51 = .ok (.istore 6, 2) := by decide +kernel
theorem dDecreePool_handOver_53 : decode cDecreePool_handOver 53 = .ok (.aload_n 0, 1) := by decide +kernel
theorem dDecreePool_handOver_54 : decode cDecreePool_handOver 54 = .ok (.getfield 25, 3) := by decide +kernel
theorem dDecreePool_handOver_57 : decode cDecreePool_handOver 57 = .ok (.iload_n 1, 1) := by decide +kernel
theorem dDecreePool_handOver_58 : decode cDecreePool_handOver 58 = .ok (.iconst 5, 1) := by decide +kernel
theorem dDecreePool_handOver_59 : decode cDecreePool_handOver 59 = .ok (.invokevirtual 101, 3) := by decide +kernel
theorem dDecreePool_handOver_62 : decode cDecreePool_handOver 62 = .ok (.istore 7, 2) := by decide +kernel
theorem dDecreePool_handOver_64 : decode cDecreePool_handOver 64 = .ok (.aload_n 0, 1) := by decide +kernel
theorem dDecreePool_handOver_65 : decode cDecreePool_handOver 65 = .ok (.getfield 25, 3) := by decide +kernel
theorem dDecreePool_handOver_68 : decode cDecreePool_handOver 68 = .ok (.iload_n 1, 1) := by decide +kernel
theorem dDecreePool_handOver_69 : decode cDecreePool_handOver 69 = .ok (.bipush 6, 2) := by decide +kernel
theorem dDecreePool_handOver_71 : decode cDecreePool_handOver 71 = .ok (.invokevirtual 101, 3) := by decide +kernel
theorem dDecreePool_handOver_74 : decode cDecreePool_handOver 74 = .ok (.istore 8, 2) := by decide +kernel
theorem dDecreePool_handOver_76 : decode cDecreePool_handOver 76 = .ok (.aload_n 0, 1) := by decide +kernel
theorem dDecreePool_handOver_77 : decode cDecreePool_handOver 77 = .ok (.getfield 25, 3) := by decide +kernel
theorem dDecreePool_handOver_80 : decode cDecreePool_handOver 80 = .ok (.iload_n 1, 1) := by decide +kernel
theorem dDecreePool_handOver_81 : decode cDecreePool_handOver 81 = .ok (.invokevirtual 104, 3) := by decide +kernel
theorem dDecreePool_handOver_84 : decode cDecreePool_handOver 84 = .ok (.aload_n 0, 1) := by decide +kernel
theorem dDecreePool_handOver_85 : decode cDecreePool_handOver 85 = .ok (.dup, 1) := by decide +kernel
theorem dDecreePool_handOver_86 : decode cDecreePool_handOver 86 = .ok (.getfield 55, 3) := by decide +kernel
theorem dDecreePool_handOver_89 : decode cDecreePool_handOver 89 = .ok (.iconst 1, 1) := by decide +kernel
theorem dDecreePool_handOver_90 : decode cDecreePool_handOver 90 = .ok (.iadd, 1) := by decide +kernel
theorem dDecreePool_handOver_91 : decode cDecreePool_handOver 91 = .ok (.putfield 55, 3) := by decide +kernel
theorem dDecreePool_handOver_94 : decode cDecreePool_handOver 94 = .ok (.aload_n 0, 1) := by decide +kernel
theorem dDecreePool_handOver_95 : decode cDecreePool_handOver 95 = .ok (.iload 4, 2) := by decide +kernel
theorem dDecreePool_handOver_97 : decode cDecreePool_handOver 97 = .ok (.invokevirtual 65, 3) := by decide +kernel
theorem dDecreePool_handOver_100 : decode cDecreePool_handOver 100 = .ok (.ifCond .ne 15, 3) := by decide +kernel
theorem dDecreePool_handOver_103 : decode cDecreePool_handOver 103 = .ok (.aload_n 0, 1) := by decide +kernel
theorem dDecreePool_handOver_104 : decode cDecreePool_handOver 104 = .ok (.dup, 1) := by decide +kernel
theorem dDecreePool_handOver_105 : decode cDecreePool_handOver 105 = .ok (.getfield 58, 3) := by decide +kernel
theorem dDecreePool_handOver_108 : decode cDecreePool_handOver 108 = .ok (.iconst 1, 1) := by decide +kernel
theorem dDecreePool_handOver_109 : decode cDecreePool_handOver 109 = .ok (.iadd, 1) := by decide +kernel
theorem dDecreePool_handOver_110 : decode cDecreePool_handOver 110 = .ok (.putfield 58, 3) := by decide +kernel
theorem dDecreePool_handOver_113 : decode cDecreePool_handOver 113 = .ok (.iconst 0, 1) := by decide +kernel
theorem dDecreePool_handOver_114 : decode cDecreePool_handOver 114 = .ok (.ireturn, 1) := by decide +kernel
theorem dDecreePool_handOver_115 : decode cDecreePool_handOver 115 = .ok (.aload_n 0, 1) := by decide +kernel
theorem dDecreePool_handOver_116 : decode cDecreePool_handOver 116 = .ok (.iload 4, 2) := by decide +kernel
theorem dDecreePool_handOver_118 : decode cDecreePool_handOver 118 = .ok (.iload 5, 2) := by decide +kernel
theorem dDecreePool_handOver_120 : decode cDecreePool_handOver 120 = .ok (.invokevirtual 69, 3) := by decide +kernel
theorem dDecreePool_handOver_123 : decode cDecreePool_handOver 123 = .ok (.istore 9, 2) := by decide +kernel
theorem dDecreePool_handOver_125 : decode cDecreePool_handOver 125 = .ok (.iload_n 2, 1) := by decide +kernel
theorem dDecreePool_handOver_126 : decode cDecreePool_handOver 126 = .ok (.tableswitch 172 1 4 #[30, 81, 123, 155], 30) := by decide +kernel
theorem dDecreePool_handOver_156 : decode cDecreePool_handOver 156 = .ok (.aload_n 0, 1) := by decide +kernel
theorem dDecreePool_handOver_157 : decode cDecreePool_handOver 157 = .ok (.getfield 41, 3) := by decide +kernel
theorem dDecreePool_handOver_160 : decode cDecreePool_handOver 160 = .ok (.iload 9, 2) := by decide +kernel
theorem dDecreePool_handOver_162 : decode cDecreePool_handOver 162 = .ok (.iload 6, 2) := by decide +kernel
theorem dDecreePool_handOver_164 : decode cDecreePool_handOver 164 = .ok (.invokevirtual 177, 3) := by decide +kernel
theorem dDecreePool_handOver_167 : decode cDecreePool_handOver 167 = .ok (.ifCond .eq 142, 3) := by decide +kernel
theorem dDecreePool_handOver_170 : decode cDecreePool_handOver 170 = .ok (.aload_n 0, 1) := by decide +kernel
theorem dDecreePool_handOver_171 : decode cDecreePool_handOver 171 = .ok (.getfield 25, 3) := by decide +kernel
theorem dDecreePool_handOver_174 : decode cDecreePool_handOver 174 = .ok (.iconst 2, 1) := by decide +kernel
theorem dDecreePool_handOver_175 : decode cDecreePool_handOver 175 = .ok (.iload 4, 2) := by decide +kernel
theorem dDecreePool_handOver_177 : decode cDecreePool_handOver 177 = .ok (.iload_n 3, 1) := by decide +kernel
theorem dDecreePool_handOver_178 : decode cDecreePool_handOver 178 = .ok (.iload 5, 2) := by decide +kernel
theorem dDecreePool_handOver_180 : decode cDecreePool_handOver 180 = .ok (.iload 6, 2) := by decide +kernel
theorem dDecreePool_handOver_182 : decode cDecreePool_handOver 182 = .ok (.aload_n 0, 1) := by decide +kernel
theorem dDecreePool_handOver_183 : decode cDecreePool_handOver 183 = .ok (.getfield 41, 3) := by decide +kernel
theorem dDecreePool_handOver_186 : decode cDecreePool_handOver 186 = .ok (.iload 9, 2) := by decide +kernel
theorem dDecreePool_handOver_188 : decode cDecreePool_handOver 188 = .ok (.invokevirtual 131, 3) := by decide +kernel
theorem dDecreePool_handOver_191 : decode cDecreePool_handOver 191 = .ok (.aload_n 0, 1) := by decide +kernel
theorem dDecreePool_handOver_192 : decode cDecreePool_handOver 192 = .ok (.getfield 41, 3) := by decide +kernel
theorem dDecreePool_handOver_195 : decode cDecreePool_handOver 195 = .ok (.iload 9, 2) := by decide +kernel
theorem dDecreePool_handOver_197 : decode cDecreePool_handOver 197 = .ok (.invokevirtual 128, 3) := by decide +kernel
theorem dDecreePool_handOver_200 : decode cDecreePool_handOver 200 = .ok (.invokevirtual 164, 3) := by decide +kernel
theorem dDecreePool_handOver_203 : decode cDecreePool_handOver 203 = .ok (.pop, 1) := by decide +kernel
theorem dDecreePool_handOver_204 : decode cDecreePool_handOver 204 = .ok (.goto 105, 3) := by decide +kernel
theorem dDecreePool_handOver_207 : decode cDecreePool_handOver 207 = .ok (.aload_n 0, 1) := by decide +kernel
theorem dDecreePool_handOver_208 : decode cDecreePool_handOver 208 = .ok (.getfield 34, 3) := by decide +kernel
theorem dDecreePool_handOver_211 : decode cDecreePool_handOver 211 = .ok (.iload 9, 2) := by decide +kernel
theorem dDecreePool_handOver_213 : decode cDecreePool_handOver 213 = .ok (.iload_n 3, 1) := by decide +kernel
theorem dDecreePool_handOver_214 : decode cDecreePool_handOver 214 = .ok (.iload 6, 2) := by decide +kernel
theorem dDecreePool_handOver_216 : decode cDecreePool_handOver 216 = .ok (.iload 8, 2) := by decide +kernel
theorem dDecreePool_handOver_218 : decode cDecreePool_handOver 218 = .ok (.iload 7, 2) := by decide +kernel
theorem dDecreePool_handOver_220 : decode cDecreePool_handOver 220 = .ok (.invokevirtual 180, 3) := by decide +kernel
theorem dDecreePool_handOver_223 : decode cDecreePool_handOver 223 = .ok (.ifCond .eq 86, 3) := by decide +kernel
theorem dDecreePool_handOver_226 : decode cDecreePool_handOver 226 = .ok (.aload_n 0, 1) := by decide +kernel
theorem dDecreePool_handOver_227 : decode cDecreePool_handOver 227 = .ok (.iconst 3, 1) := by decide +kernel
theorem dDecreePool_handOver_228 : decode cDecreePool_handOver 228 = .ok (.iload 4, 2) := by decide +kernel
theorem dDecreePool_handOver_230 : decode cDecreePool_handOver 230 = .ok (.iload 5, 2) := by decide +kernel
theorem dDecreePool_handOver_232 : decode cDecreePool_handOver 232 = .ok (.iload 6, 2) := by decide +kernel
theorem dDecreePool_handOver_234 : decode cDecreePool_handOver 234 = .ok (.aload_n 0, 1) := by decide +kernel
theorem dDecreePool_handOver_235 : decode cDecreePool_handOver 235 = .ok (.getfield 34, 3) := by decide +kernel
theorem dDecreePool_handOver_238 : decode cDecreePool_handOver 238 = .ok (.iload 9, 2) := by decide +kernel
theorem dDecreePool_handOver_240 : decode cDecreePool_handOver 240 = .ok (.invokevirtual 143, 3) := by decide +kernel
theorem dDecreePool_handOver_243 : decode cDecreePool_handOver 243 = .ok (.invokevirtual 85, 3) := by decide +kernel
theorem dDecreePool_handOver_246 : decode cDecreePool_handOver 246 = .ok (.goto 63, 3) := by decide +kernel
theorem dDecreePool_handOver_249 : decode cDecreePool_handOver 249 = .ok (.aload_n 0, 1) := by decide +kernel
theorem dDecreePool_handOver_250 : decode cDecreePool_handOver 250 = .ok (.getfield 41, 3) := by decide +kernel
theorem dDecreePool_handOver_253 : decode cDecreePool_handOver 253 = .ok (.iload 9, 2) := by decide +kernel
theorem dDecreePool_handOver_255 : decode cDecreePool_handOver 255 = .ok (.iload 6, 2) := by decide +kernel
theorem dDecreePool_handOver_257 : decode cDecreePool_handOver 257 = .ok (.iload 7, 2) := by decide +kernel
theorem dDecreePool_handOver_259 : decode cDecreePool_handOver 259 = .ok (.invokevirtual 184, 3) := by decide +kernel
theorem dDecreePool_handOver_262 : decode cDecreePool_handOver 262 = .ok (.ifCond .eq 47, 3) := by decide +kernel
theorem dDecreePool_handOver_265 : decode cDecreePool_handOver 265 = .ok (.aload_n 0, 1) := by decide +kernel
theorem dDecreePool_handOver_266 : decode cDecreePool_handOver 266 = .ok (.iconst 4, 1) := by decide +kernel
theorem dDecreePool_handOver_267 : decode cDecreePool_handOver 267 = .ok (.iload 4, 2) := by decide +kernel
theorem dDecreePool_handOver_269 : decode cDecreePool_handOver 269 = .ok (.iload 5, 2) := by decide +kernel
theorem dDecreePool_handOver_271 : decode cDecreePool_handOver 271 = .ok (.iload 6, 2) := by decide +kernel
theorem dDecreePool_handOver_273 : decode cDecreePool_handOver 273 = .ok (.iload 7, 2) := by decide +kernel
theorem dDecreePool_handOver_275 : decode cDecreePool_handOver 275 = .ok (.invokevirtual 85, 3) := by decide +kernel
theorem dDecreePool_handOver_278 : decode cDecreePool_handOver 278 = .ok (.goto 31, 3) := by decide +kernel
theorem dDecreePool_handOver_281 : decode cDecreePool_handOver 281 = .ok (.aload_n 0, 1) := by decide +kernel
theorem dDecreePool_handOver_282 : decode cDecreePool_handOver 282 = .ok (.getfield 48, 3) := by decide +kernel
theorem dDecreePool_handOver_285 : decode cDecreePool_handOver 285 = .ok (.iload 9, 2) := by decide +kernel
theorem dDecreePool_handOver_287 : decode cDecreePool_handOver 287 = .ok (.iload_n 3, 1) := by decide +kernel
theorem dDecreePool_handOver_288 : decode cDecreePool_handOver 288 = .ok (.iload 6, 2) := by decide +kernel
theorem dDecreePool_handOver_290 : decode cDecreePool_handOver 290 = .ok (.iload 7, 2) := by decide +kernel
theorem dDecreePool_handOver_292 : decode cDecreePool_handOver 292 = .ok (.invokevirtual 187, 3) := by decide +kernel
theorem dDecreePool_handOver_295 : decode cDecreePool_handOver 295 = .ok (.goto 14, 3) := by decide +kernel
theorem dDecreePool_handOver_298 : decode cDecreePool_handOver 298 = .ok (.aload_n 0, 1) := by decide +kernel
theorem dDecreePool_handOver_299 : decode cDecreePool_handOver 299 = .ok (.getfield 48, 3) := by decide +kernel
theorem dDecreePool_handOver_302 : decode cDecreePool_handOver 302 = .ok (.iload 9, 2) := by decide +kernel
theorem dDecreePool_handOver_304 : decode cDecreePool_handOver 304 = .ok (.iload 7, 2) := by decide +kernel
theorem dDecreePool_handOver_306 : decode cDecreePool_handOver 306 = .ok (.invokevirtual 191, 3) := by decide +kernel
theorem dDecreePool_handOver_309 : decode cDecreePool_handOver 309 = .ok (.iload_n 2, 1) := by decide +kernel
theorem dDecreePool_handOver_310 : decode cDecreePool_handOver 310 = .ok (.ireturn, 1) := by decide +kernel
set_option maxRecDepth 100000 in
set_option maxHeartbeats 4000000 in
theorem c_handOver (l : Launch) (D : va_G) (cI cZ : ClassId) (q : Nat → Nat) (n : Nat) (S : Nat) (P : Nat) (x : St) (j : Nat) (hn1 : 1 ≤ n) (hn5 : n ≤ 5) (hS1 : 1 ≤ S) (hS4 : S ≤ 4) (hP5 : 5 ≤ P) (hP64 : P ≤ 64) (hj : j < P) (hV : vmsg n S (x.1 0 j 0) (x.1 0 j 1) (x.1 0 j 2) (x.1 0 j 3) (x.1 0 j 5)) (hI : Ibit x) (hk0 : x.1 0 j 0 ≠ 0) (hNB : ¬ sBlk n P x j) : MI l D [(cI, .int), (cZ, .boolean)] yDecreePool_handOver wsDecreePool_handOver ({ frames := 4, cells := 0, slots := 0, locals := 98 }) [.ref (q 0), .int (nI j)] (wX q cI n S P x) (fun r w => r = (sHo n P x j).1 ∧ w = (wX q cI n S P (sHo n P x j).2)) := by
  intro sz
  obtain ⟨k9, b, a, t, hk1, hk5, hbn, ha, ht, hkk, hsd, hrc, hsl, hv0⟩ := hV
  obtain ⟨e1, he1, he2⟩ := hI.1 a t
  have hE := orb_fin e1 he1 b (by omega)
  have iA : ix (x.1 0 j 2) = a := by rw [hrc]; exact ix_nI ha (by omega)
  have iT : ix (x.1 0 j 3) = t := by rw [hsl]; exact ix_nI ht (by omega)
  have iB : ix (x.1 0 j 1) = b := by rw [hsd]; exact ix_nI hbn (by omega)
  have hiff : (x.1 13 (ix (x.1 0 j 2)) 0 = 0 ∧ sAll n x j) ↔ (x.1 13 a 0 = 0 ∧ ((x.1 0 j 0 = nI 2 ∧ ((x.1 1 a t = nI 1 ∧ x.1 2 a t = x.1 0 j 4) ∧ n < 2 * popn (e1 ||| 2 ^ b))) ∨ (x.1 0 j 0 = nI 3 ∧ x.1 8 a t ≤ x.1 0 j 4))) := by
    unfold sAll sWins
    rw [iA, iT, hsd, he2, hE.1, ix_nI hE.2 (by omega)]
  have hc := cnt_out hj hk0
  have hcl : cntx P x ≤ P := cnt_le _ _
  have hroom : x.1 13 a 0 = 0 → ((x.1 0 j 0 = nI 2 ∧ ((x.1 1 a t = nI 1 ∧ x.1 2 a t = x.1 0 j 4) ∧ n < 2 * popn (e1 ||| 2 ^ b))) ∨ (x.1 0 j 0 = nI 3 ∧ x.1 8 a t ≤ x.1 0 j 4)) → n ≤ P - cntx P x + 1 := fun h1 h2 => Nat.le_of_not_lt (fun q => hNB ⟨(hiff.mpr ⟨h1, h2⟩).1, q, (hiff.mpr ⟨h1, h2⟩).2⟩)
  have hpo : ix (orb ((sOut x j).1 3 a t) (nI b)) = e1 ||| 2 ^ b := by
    show ix (orb (x.1 3 a t) (nI b)) = _
    rw [he2, hE.1]
    exact ix_nI hE.2 (by omega)
  refine Met.ofW (cc := cDecreePool_handOver) (maxL := 10) (ret := (Option.some .int)) (by decide) rfl ?_
  intro p e s m args below meth c s₁ B hml hv
  obtain ⟨rfl, hsz, hP, hK, hD0, hZ⟩ := hv
  have hx := B.exec
  have hb := B.bytes
  have hr := B.returns
  have hts := atoms_spec (ws := wsDecreePool_handOver) B.pre
  have hown : s.vm.findClass RDecreePool = some m.cls := findClass_of_methodNamed B.named
  have hlocks := B.notSynchronized
  subst hsz
  have hD := hD0.self (sz := s.heap.size)
  generalize hAe : va_A (wX q cI n S P x) s.heap.size = A at hD ⊢
  have hA : ∀ q : Nat, s.heap.size ≤ q → A q := fun q h => by rw [← hAe]; exact Or.inr h
  have hS : va_S A s.heap s.heap [] := va_S.rf
  have hP : va_P D vwCl (wX q cI n S P x) s.heap := hP
  have hl := lv_entry ([.ref (q 0), .int (nI j)]) (n := 10) (Nat.le_of_ble_eq_true rfl)
  rw [lg_entry_eq]
  generalize (lg_sl ([.ref (q 0), .int (nI j)]) ++ List.replicate (10 - (lg_sl ([.ref (q 0), .int (nI j)])).length) Slot.unset).toArray = ls at hl ⊢
  have hl : lv_has ls 10 [(0, .ref (q 0)), (1, .int (nI j))] := hl
  refine lv_aload_n hx hb dDecreePool_handOver_0 rfl (lv_at hl 0 rfl) ?_
  refine va_get (D := D) (ci := 0) (v := .ref (q 1)) (C := RDecreePool) (T := TDecreePool) (N := 9) hx hb hts (fun w h => mc (uDecreePool_in w h)) hown hK hP 0 rfl rfl 2 (by decide) (hts _ (mc wd107)) (fun _ h9 => h9) rfl dDecreePool_handOver_1 ?_
  refine lv_iload_n hx hb dDecreePool_handOver_4 rfl (lv_at hl 1 rfl) ?_
  refine lv_iconst (v := nI 0) hx hb dDecreePool_handOver_5 (by decide) ?_
  have hPc := hP.sub (ws' := (wPo q cI P (x.1 0) (cntx P x))) [1, 2] rfl
  have hDc := hD.sub (ws' := (wPo q cI P (x.1 0) (cntx P x))) [1, 2] (by decide) rfl
  refine kx_i (va_runV (As := [.int (nI j), .int (nI 0)]) (rest := []) ⟨hx, hb, hml, hown, hts⟩ ((c_field l D cI cZ q P (x.1 0) (cntx P x) j 0 (hP64) (hj) (by omega)) s.heap.size) (cwV 2 hts (gV wd202 wd182 wd183 wd2 wd184) rfl rfl rfl (by decide +kernel) ⟨Nat.le_of_ble_eq_true rfl, Nat.le_of_ble_eq_true rfl⟩) ⟨fb_PW, va_recv (q0 := 0) (ci := 1) hK hPc rfl rfl, pre_PW hK hPc hDc hZ⟩ rfl rfl hl.1 rfl (lv_room (Nat.le_of_ble_eq_true rfl)) dDecreePool_handOver_6 ⟨Nat.zero_le _, Nat.zero_le _⟩) hP hD hS hA [1, 2] [0, 3, 4, 5, 6, 7, 8, 9, 10, 11, 12, 13, 14, 15] rfl rfl (by decide) (by decide) (fun r w1 H locs hw hP hD hS => ?_)
  obtain ⟨rfl, rfl⟩ := hw
  have hP : va_P D vwCl (wX q cI n S P x) H := hP.sub [0, 14, 15, 1, 2, 3, 4, 5, 6, 7, 8, 9, 10, 11, 12, 13] rfl
  have hD : va_D A (wX q cI n S P x) := hD.sub [0, 14, 15, 1, 2, 3, 4, 5, 6, 7, 8, 9, 10, 11, 12, 13] (by decide) rfl
  refine lv_istore_n hx hb dDecreePool_handOver_9 rfl hl (by decide) rfl (fun ls hl => ?_)
  have hl : lv_has ls 10 [(2, .int (x.1 0 j 0)), (0, .ref (q 0)), (1, .int (nI j))] := hl
  refine lv_aload_n hx hb dDecreePool_handOver_10 rfl (lv_at hl 1 rfl) ?_
  refine va_get (D := D) (ci := 0) (v := .ref (q 1)) (C := RDecreePool) (T := TDecreePool) (N := 9) hx hb hts (fun w h => mc (uDecreePool_in w h)) hown hK hP 0 rfl rfl 2 (by decide) (hts _ (mc wd107)) (fun _ h9 => h9) rfl dDecreePool_handOver_11 ?_
  refine lv_iload_n hx hb dDecreePool_handOver_14 rfl (lv_at hl 2 rfl) ?_
  refine lv_iconst (v := nI 1) hx hb dDecreePool_handOver_15 (by decide) ?_
  have hPc := hP.sub (ws' := (wPo q cI P (x.1 0) (cntx P x))) [1, 2] rfl
  have hDc := hD.sub (ws' := (wPo q cI P (x.1 0) (cntx P x))) [1, 2] (by decide) rfl
  refine kx_i (va_runV (As := [.int (nI j), .int (nI 1)]) (rest := []) ⟨hx, hb, hml, hown, hts⟩ ((c_field l D cI cZ q P (x.1 0) (cntx P x) j 1 (hP64) (hj) (by omega)) H.size) (cwV 2 hts (gV wd202 wd182 wd183 wd2 wd184) rfl rfl rfl (by decide +kernel) ⟨Nat.le_of_ble_eq_true rfl, Nat.le_of_ble_eq_true rfl⟩) ⟨fb_PW, va_recv (q0 := 0) (ci := 1) hK hPc rfl rfl, pre_PW hK hPc hDc hZ⟩ rfl rfl hl.1 rfl (lv_room (Nat.le_of_ble_eq_true rfl)) dDecreePool_handOver_16 ⟨Nat.zero_le _, Nat.zero_le _⟩) hP hD hS hA [1, 2] [0, 3, 4, 5, 6, 7, 8, 9, 10, 11, 12, 13, 14, 15] rfl rfl (by decide) (by decide) (fun r w1 H locs hw hP hD hS => ?_)
  obtain ⟨rfl, rfl⟩ := hw
  have hP : va_P D vwCl (wX q cI n S P x) H := hP.sub [0, 14, 15, 1, 2, 3, 4, 5, 6, 7, 8, 9, 10, 11, 12, 13] rfl
  have hD : va_D A (wX q cI n S P x) := hD.sub [0, 14, 15, 1, 2, 3, 4, 5, 6, 7, 8, 9, 10, 11, 12, 13] (by decide) rfl
  refine lv_topi (nm_r (hsd) ?_)
  refine lv_istore_n hx hb dDecreePool_handOver_19 rfl hl (by decide) rfl (fun ls hl => ?_)
  have hl : lv_has ls 10 [(3, .int (nI b)), (2, .int (x.1 0 j 0)), (0, .ref (q 0)), (1, .int (nI j))] := hl
  refine lv_aload_n hx hb dDecreePool_handOver_20 rfl (lv_at hl 2 rfl) ?_
  refine va_get (D := D) (ci := 0) (v := .ref (q 1)) (C := RDecreePool) (T := TDecreePool) (N := 9) hx hb hts (fun w h => mc (uDecreePool_in w h)) hown hK hP 0 rfl rfl 2 (by decide) (hts _ (mc wd107)) (fun _ h9 => h9) rfl dDecreePool_handOver_21 ?_
  refine lv_iload_n hx hb dDecreePool_handOver_24 rfl (lv_at hl 3 rfl) ?_
  refine lv_iconst (v := nI 2) hx hb dDecreePool_handOver_25 (by decide) ?_
  have hPc := hP.sub (ws' := (wPo q cI P (x.1 0) (cntx P x))) [1, 2] rfl
  have hDc := hD.sub (ws' := (wPo q cI P (x.1 0) (cntx P x))) [1, 2] (by decide) rfl
  refine kx_i (va_runV (As := [.int (nI j), .int (nI 2)]) (rest := []) ⟨hx, hb, hml, hown, hts⟩ ((c_field l D cI cZ q P (x.1 0) (cntx P x) j 2 (hP64) (hj) (by omega)) H.size) (cwV 2 hts (gV wd202 wd182 wd183 wd2 wd184) rfl rfl rfl (by decide +kernel) ⟨Nat.le_of_ble_eq_true rfl, Nat.le_of_ble_eq_true rfl⟩) ⟨fb_PW, va_recv (q0 := 0) (ci := 1) hK hPc rfl rfl, pre_PW hK hPc hDc hZ⟩ rfl rfl hl.1 rfl (lv_room (Nat.le_of_ble_eq_true rfl)) dDecreePool_handOver_26 ⟨Nat.zero_le _, Nat.zero_le _⟩) hP hD hS hA [1, 2] [0, 3, 4, 5, 6, 7, 8, 9, 10, 11, 12, 13, 14, 15] rfl rfl (by decide) (by decide) (fun r w1 H locs hw hP hD hS => ?_)
  obtain ⟨rfl, rfl⟩ := hw
  have hP : va_P D vwCl (wX q cI n S P x) H := hP.sub [0, 14, 15, 1, 2, 3, 4, 5, 6, 7, 8, 9, 10, 11, 12, 13] rfl
  have hD : va_D A (wX q cI n S P x) := hD.sub [0, 14, 15, 1, 2, 3, 4, 5, 6, 7, 8, 9, 10, 11, 12, 13] (by decide) rfl
  refine lv_topi (nm_r (hrc) ?_)
  refine lv_istore hx hb dDecreePool_handOver_29 hl (by decide) rfl (fun ls hl => ?_)
  have hl : lv_has ls 10 [(4, .int (nI a)), (3, .int (nI b)), (2, .int (x.1 0 j 0)), (0, .ref (q 0)), (1, .int (nI j))] := hl
  refine lv_aload_n hx hb dDecreePool_handOver_31 rfl (lv_at hl 3 rfl) ?_
  refine va_get (D := D) (ci := 0) (v := .ref (q 1)) (C := RDecreePool) (T := TDecreePool) (N := 9) hx hb hts (fun w h => mc (uDecreePool_in w h)) hown hK hP 0 rfl rfl 2 (by decide) (hts _ (mc wd107)) (fun _ h9 => h9) rfl dDecreePool_handOver_32 ?_
  refine lv_iload_n hx hb dDecreePool_handOver_35 rfl (lv_at hl 4 rfl) ?_
  refine lv_iconst (v := nI 3) hx hb dDecreePool_handOver_36 (by decide) ?_
  have hPc := hP.sub (ws' := (wPo q cI P (x.1 0) (cntx P x))) [1, 2] rfl
  have hDc := hD.sub (ws' := (wPo q cI P (x.1 0) (cntx P x))) [1, 2] (by decide) rfl
  refine kx_i (va_runV (As := [.int (nI j), .int (nI 3)]) (rest := []) ⟨hx, hb, hml, hown, hts⟩ ((c_field l D cI cZ q P (x.1 0) (cntx P x) j 3 (hP64) (hj) (by omega)) H.size) (cwV 2 hts (gV wd202 wd182 wd183 wd2 wd184) rfl rfl rfl (by decide +kernel) ⟨Nat.le_of_ble_eq_true rfl, Nat.le_of_ble_eq_true rfl⟩) ⟨fb_PW, va_recv (q0 := 0) (ci := 1) hK hPc rfl rfl, pre_PW hK hPc hDc hZ⟩ rfl rfl hl.1 rfl (lv_room (Nat.le_of_ble_eq_true rfl)) dDecreePool_handOver_37 ⟨Nat.zero_le _, Nat.zero_le _⟩) hP hD hS hA [1, 2] [0, 3, 4, 5, 6, 7, 8, 9, 10, 11, 12, 13, 14, 15] rfl rfl (by decide) (by decide) (fun r w1 H locs hw hP hD hS => ?_)
  obtain ⟨rfl, rfl⟩ := hw
  have hP : va_P D vwCl (wX q cI n S P x) H := hP.sub [0, 14, 15, 1, 2, 3, 4, 5, 6, 7, 8, 9, 10, 11, 12, 13] rfl
  have hD : va_D A (wX q cI n S P x) := hD.sub [0, 14, 15, 1, 2, 3, 4, 5, 6, 7, 8, 9, 10, 11, 12, 13] (by decide) rfl
  refine lv_topi (nm_r (hsl) ?_)
  refine lv_istore hx hb dDecreePool_handOver_40 hl (by decide) rfl (fun ls hl => ?_)
  have hl : lv_has ls 10 [(5, .int (nI t)), (4, .int (nI a)), (3, .int (nI b)), (2, .int (x.1 0 j 0)), (0, .ref (q 0)), (1, .int (nI j))] := hl
  refine lv_aload_n hx hb dDecreePool_handOver_42 rfl (lv_at hl 4 rfl) ?_
  refine va_get (D := D) (ci := 0) (v := .ref (q 1)) (C := RDecreePool) (T := TDecreePool) (N := 9) hx hb hts (fun w h => mc (uDecreePool_in w h)) hown hK hP 0 rfl rfl 2 (by decide) (hts _ (mc wd107)) (fun _ h9 => h9) rfl dDecreePool_handOver_43 ?_
  refine lv_iload_n hx hb dDecreePool_handOver_46 rfl (lv_at hl 5 rfl) ?_
  refine lv_iconst (v := nI 4) hx hb dDecreePool_handOver_47 (by decide) ?_
  have hPc := hP.sub (ws' := (wPo q cI P (x.1 0) (cntx P x))) [1, 2] rfl
  have hDc := hD.sub (ws' := (wPo q cI P (x.1 0) (cntx P x))) [1, 2] (by decide) rfl
  refine kx_i (va_runV (As := [.int (nI j), .int (nI 4)]) (rest := []) ⟨hx, hb, hml, hown, hts⟩ ((c_field l D cI cZ q P (x.1 0) (cntx P x) j 4 (hP64) (hj) (by omega)) H.size) (cwV 2 hts (gV wd202 wd182 wd183 wd2 wd184) rfl rfl rfl (by decide +kernel) ⟨Nat.le_of_ble_eq_true rfl, Nat.le_of_ble_eq_true rfl⟩) ⟨fb_PW, va_recv (q0 := 0) (ci := 1) hK hPc rfl rfl, pre_PW hK hPc hDc hZ⟩ rfl rfl hl.1 rfl (lv_room (Nat.le_of_ble_eq_true rfl)) dDecreePool_handOver_48 ⟨Nat.zero_le _, Nat.zero_le _⟩) hP hD hS hA [1, 2] [0, 3, 4, 5, 6, 7, 8, 9, 10, 11, 12, 13, 14, 15] rfl rfl (by decide) (by decide) (fun r w1 H locs hw hP hD hS => ?_)
  obtain ⟨rfl, rfl⟩ := hw
  have hP : va_P D vwCl (wX q cI n S P x) H := hP.sub [0, 14, 15, 1, 2, 3, 4, 5, 6, 7, 8, 9, 10, 11, 12, 13] rfl
  have hD : va_D A (wX q cI n S P x) := hD.sub [0, 14, 15, 1, 2, 3, 4, 5, 6, 7, 8, 9, 10, 11, 12, 13] (by decide) rfl
  refine lv_istore hx hb dDecreePool_handOver_51 hl (by decide) rfl (fun ls hl => ?_)
  have hl : lv_has ls 10 [(6, .int (x.1 0 j 4)), (5, .int (nI t)), (4, .int (nI a)), (3, .int (nI b)), (2, .int (x.1 0 j 0)), (0, .ref (q 0)), (1, .int (nI j))] := hl
  refine lv_aload_n hx hb dDecreePool_handOver_53 rfl (lv_at hl 5 rfl) ?_
  refine va_get (D := D) (ci := 0) (v := .ref (q 1)) (C := RDecreePool) (T := TDecreePool) (N := 9) hx hb hts (fun w h => mc (uDecreePool_in w h)) hown hK hP 0 rfl rfl 2 (by decide) (hts _ (mc wd107)) (fun _ h9 => h9) rfl dDecreePool_handOver_54 ?_
  refine lv_iload_n hx hb dDecreePool_handOver_57 rfl (lv_at hl 6 rfl) ?_
  refine lv_iconst (v := nI 5) hx hb dDecreePool_handOver_58 (by decide) ?_
  have hPc := hP.sub (ws' := (wPo q cI P (x.1 0) (cntx P x))) [1, 2] rfl
  have hDc := hD.sub (ws' := (wPo q cI P (x.1 0) (cntx P x))) [1, 2] (by decide) rfl
  refine kx_i (va_runV (As := [.int (nI j), .int (nI 5)]) (rest := []) ⟨hx, hb, hml, hown, hts⟩ ((c_field l D cI cZ q P (x.1 0) (cntx P x) j 5 (hP64) (hj) (by omega)) H.size) (cwV 2 hts (gV wd202 wd182 wd183 wd2 wd184) rfl rfl rfl (by decide +kernel) ⟨Nat.le_of_ble_eq_true rfl, Nat.le_of_ble_eq_true rfl⟩) ⟨fb_PW, va_recv (q0 := 0) (ci := 1) hK hPc rfl rfl, pre_PW hK hPc hDc hZ⟩ rfl rfl hl.1 rfl (lv_room (Nat.le_of_ble_eq_true rfl)) dDecreePool_handOver_59 ⟨Nat.zero_le _, Nat.zero_le _⟩) hP hD hS hA [1, 2] [0, 3, 4, 5, 6, 7, 8, 9, 10, 11, 12, 13, 14, 15] rfl rfl (by decide) (by decide) (fun r w1 H locs hw hP hD hS => ?_)
  obtain ⟨rfl, rfl⟩ := hw
  have hP : va_P D vwCl (wX q cI n S P x) H := hP.sub [0, 14, 15, 1, 2, 3, 4, 5, 6, 7, 8, 9, 10, 11, 12, 13] rfl
  have hD : va_D A (wX q cI n S P x) := hD.sub [0, 14, 15, 1, 2, 3, 4, 5, 6, 7, 8, 9, 10, 11, 12, 13] (by decide) rfl
  refine lv_istore hx hb dDecreePool_handOver_62 hl (by decide) rfl (fun ls hl => ?_)
  have hl : lv_has ls 10 [(7, .int (x.1 0 j 5)), (6, .int (x.1 0 j 4)), (5, .int (nI t)), (4, .int (nI a)), (3, .int (nI b)), (2, .int (x.1 0 j 0)), (0, .ref (q 0)), (1, .int (nI j))] := hl
  refine lv_aload_n hx hb dDecreePool_handOver_64 rfl (lv_at hl 6 rfl) ?_
  refine va_get (D := D) (ci := 0) (v := .ref (q 1)) (C := RDecreePool) (T := TDecreePool) (N := 9) hx hb hts (fun w h => mc (uDecreePool_in w h)) hown hK hP 0 rfl rfl 2 (by decide) (hts _ (mc wd107)) (fun _ h9 => h9) rfl dDecreePool_handOver_65 ?_
  refine lv_iload_n hx hb dDecreePool_handOver_68 rfl (lv_at hl 7 rfl) ?_
  refine lv_bipush (v := nI 6) hx hb dDecreePool_handOver_69 (by decide) ?_
  have hPc := hP.sub (ws' := (wPo q cI P (x.1 0) (cntx P x))) [1, 2] rfl
  have hDc := hD.sub (ws' := (wPo q cI P (x.1 0) (cntx P x))) [1, 2] (by decide) rfl
  refine kx_i (va_runV (As := [.int (nI j), .int (nI 6)]) (rest := []) ⟨hx, hb, hml, hown, hts⟩ ((c_field l D cI cZ q P (x.1 0) (cntx P x) j 6 (hP64) (hj) (by omega)) H.size) (cwV 2 hts (gV wd202 wd182 wd183 wd2 wd184) rfl rfl rfl (by decide +kernel) ⟨Nat.le_of_ble_eq_true rfl, Nat.le_of_ble_eq_true rfl⟩) ⟨fb_PW, va_recv (q0 := 0) (ci := 1) hK hPc rfl rfl, pre_PW hK hPc hDc hZ⟩ rfl rfl hl.1 rfl (lv_room (Nat.le_of_ble_eq_true rfl)) dDecreePool_handOver_71 ⟨Nat.zero_le _, Nat.zero_le _⟩) hP hD hS hA [1, 2] [0, 3, 4, 5, 6, 7, 8, 9, 10, 11, 12, 13, 14, 15] rfl rfl (by decide) (by decide) (fun r w1 H locs hw hP hD hS => ?_)
  obtain ⟨rfl, rfl⟩ := hw
  have hP : va_P D vwCl (wX q cI n S P x) H := hP.sub [0, 14, 15, 1, 2, 3, 4, 5, 6, 7, 8, 9, 10, 11, 12, 13] rfl
  have hD : va_D A (wX q cI n S P x) := hD.sub [0, 14, 15, 1, 2, 3, 4, 5, 6, 7, 8, 9, 10, 11, 12, 13] (by decide) rfl
  refine lv_istore hx hb dDecreePool_handOver_74 hl (by decide) rfl (fun ls hl => ?_)
  have hl : lv_has ls 10 [(8, .int (x.1 0 j 6)), (7, .int (x.1 0 j 5)), (6, .int (x.1 0 j 4)), (5, .int (nI t)), (4, .int (nI a)), (3, .int (nI b)), (2, .int (x.1 0 j 0)), (0, .ref (q 0)), (1, .int (nI j))] := hl
  refine lv_aload_n hx hb dDecreePool_handOver_76 rfl (lv_at hl 7 rfl) ?_
  refine va_get (D := D) (ci := 0) (v := .ref (q 1)) (C := RDecreePool) (T := TDecreePool) (N := 9) hx hb hts (fun w h => mc (uDecreePool_in w h)) hown hK hP 0 rfl rfl 2 (by decide) (hts _ (mc wd107)) (fun _ h9 => h9) rfl dDecreePool_handOver_77 ?_
  refine lv_iload_n hx hb dDecreePool_handOver_80 rfl (lv_at hl 8 rfl) ?_
  have hPc := hP.sub (ws' := (wPo q cI P (x.1 0) (cntx P x))) [1, 2] rfl
  have hDc := hD.sub (ws' := (wPo q cI P (x.1 0) (cntx P x))) [1, 2] (by decide) rfl
  refine kx_v (va_runV (As := [.int (nI j)]) (rest := []) ⟨hx, hb, hml, hown, hts⟩ ((c_takeOut l D cI cZ q P (x.1 0) (cntx P x) j (hP64) (hj) (cnt_pos hj hk0)) H.size) (cwV 1 hts (gV wd228 wd229 wd230 wd2 wd231) rfl rfl rfl (by decide +kernel) ⟨Nat.le_of_ble_eq_true rfl, Nat.le_of_ble_eq_true rfl⟩) ⟨fb_PW, va_recv (q0 := 0) (ci := 1) hK hPc rfl rfl, pre_PW hK hPc hDc hZ⟩ rfl rfl hl.1 rfl (lv_room (Nat.le_of_ble_eq_true rfl)) dDecreePool_handOver_81 ⟨Nat.zero_le _, Nat.zero_le _⟩) hP hD hS hA [1, 2] [0, 3, 4, 5, 6, 7, 8, 9, 10, 11, 12, 13, 14, 15] rfl rfl (by decide) (by decide) (fun w1 H locs hw hP hD hS => ?_)
  obtain rfl := hw
  have hP : va_P D vwCl (wD q cI n S P (n * S) (nI (msk (col (x.1 13) 0) n)) (x.1 12 0 0) (x.1 12 0 1) (up2 (x.1 0) j 0 (nI 0)) ((cntx P x) - 1) (sq S (x.1 1)) (sq S (x.1 2)) (sq S (x.1 3)) (sq S (x.1 4)) (sq S (x.1 5)) (sq S (x.1 8)) (sq S (x.1 9)) (sq S (x.1 10)) (hq n S (x.2 0)) (sq S (x.1 11))) H := hP.sub [0, 14, 15, 1, 2, 3, 4, 5, 6, 7, 8, 9, 10, 11, 12, 13] rfl
  have hD : va_D A (wD q cI n S P (n * S) (nI (msk (col (x.1 13) 0) n)) (x.1 12 0 0) (x.1 12 0 1) (up2 (x.1 0) j 0 (nI 0)) ((cntx P x) - 1) (sq S (x.1 1)) (sq S (x.1 2)) (sq S (x.1 3)) (sq S (x.1 4)) (sq S (x.1 5)) (sq S (x.1 8)) (sq S (x.1 9)) (sq S (x.1 10)) (hq n S (x.2 0)) (sq S (x.1 11))) := hD.sub [0, 14, 15, 1, 2, 3, 4, 5, 6, 7, 8, 9, 10, 11, 12, 13] (by decide) rfl
  have hW1 : (wD q cI n S P (n * S) (nI (msk (col (x.1 13) 0) n)) (x.1 12 0 0) (x.1 12 0 1) (up2 (x.1 0) j 0 (nI 0)) ((cntx P x) - 1) (sq S (x.1 1)) (sq S (x.1 2)) (sq S (x.1 3)) (sq S (x.1 4)) (sq S (x.1 5)) (sq S (x.1 8)) (sq S (x.1 9)) (sq S (x.1 10)) (hq n S (x.2 0)) (sq S (x.1 11))) = (wX q cI n S P (put x 0 j 0 (nI 0))) := by rw [show cntx P x - 1 = cntx P (put x 0 j 0 (nI 0)) by omega]; try rfl
  rw [hW1] at hP hD
  refine lv_aload_n hx hb dDecreePool_handOver_84 rfl (lv_at hl 7 rfl) ?_
  refine lv_dup hx hb dDecreePool_handOver_85 rfl ?_
  refine va_get (D := D) (ci := 0) (v := .int ((put x 0 j 0 (nI 0)).1 12 0 0)) (C := RDecreePool) (T := TDecreePool) (N := 9) hx hb hts (fun w h => mc (uDecreePool_in w h)) hown hK hP 0 rfl rfl 7 (by decide) (hts _ (mc wd112)) (fun _ h9 => h9) rfl dDecreePool_handOver_86 ?_
  refine lv_iconst (v := nI 1) hx hb dDecreePool_handOver_89 (by decide) ?_
  refine lv_iadd hx hb dDecreePool_handOver_90 ?_
  refine va_put (D := D) (ci := 0) (v := .int (((put x 0 j 0 (nI 0)).1 12 0 0) + (nI 1))) (ty := .int) (C := RDecreePool) (T := TDecreePool) (N := 9) hx hb hts (fun w h => mc (uDecreePool_in w h)) tyDecreePool tyDecreePool_ok nmDecreePool hown hK hP hD hS 0 rfl rfl 7 (by decide) (hts _ (mc wd112)) (fun _ h9 => h9) rfl (by decide +kernel) rfl rfl (Nat.le_of_ble_eq_true rfl) dDecreePool_handOver_91 (fun H locs hP hD hS => ?_)
  have hP : va_P D vwCl (wX q cI n S P (sOut x j)) H := hP
  have hD : va_D A (wX q cI n S P (sOut x j)) := hD
  refine lv_aload_n hx hb dDecreePool_handOver_94 rfl (lv_at hl 7 rfl) ?_
  refine lv_iload hx hb dDecreePool_handOver_95 (lv_at hl 4 rfl) ?_
  have hPc := hP.sub (ws' := (wX q cI n S P (sOut x j))) [0, 1, 2, 3, 4, 5, 6, 7, 8, 9, 10, 11, 12, 13, 14, 15] rfl
  have hDc := hD.sub (ws' := (wX q cI n S P (sOut x j))) [0, 1, 2, 3, 4, 5, 6, 7, 8, 9, 10, 11, 12, 13, 14, 15] (by decide) rfl
  refine kx_i (va_runV (As := [.int (nI a)]) (rest := []) ⟨hx, hb, hml, hown, hts⟩ ((c_isUp l D cI cZ q n S P (sOut x j) a (hn1) (hn5) (hS1) (hS4) (hP5) (hP64) (by omega)) H.size) (cwV 1 hts (gV wd149 wd151 sl_DecreePool_isUp wd1 wd152) rfl rfl rfl (by decide +kernel) ⟨Nat.le_of_ble_eq_true rfl, Nat.le_of_ble_eq_true rfl⟩) ⟨fb_PW, va_recv (q0 := 0) (ci := 0) hK hPc rfl rfl, pre_PW hK hPc hDc hZ⟩ rfl rfl hl.1 rfl (lv_room (Nat.le_of_ble_eq_true rfl)) dDecreePool_handOver_97 ⟨Nat.zero_le _, Nat.zero_le _⟩) hP hD hS hA [0, 1, 2, 3, 4, 5, 6, 7, 8, 9, 10, 11, 12, 13, 14, 15] [] rfl rfl (by decide) (by decide) (fun r w1 H locs hw hP hD hS => ?_)
  rcases hw with ⟨rfl, h97, rfl⟩ | ⟨rfl, h97, rfl⟩
  · have hP : va_P D vwCl (wX q cI n S P (sOut x j)) H := hP
    have hD : va_D A (wX q cI n S P (sOut x j)) := hD
    have h97 : x.1 13 a 0 = 0 := h97
    refine lv_if_ne (tgt := 115) hx hb dDecreePool_handOver_100 (by decide) (fun _ => ?_) (fun h9 => absurd h9 (by decide))
    refine lv_aload_n hx hb dDecreePool_handOver_115 rfl (lv_at hl 7 rfl) ?_
    refine lv_iload hx hb dDecreePool_handOver_116 (lv_at hl 4 rfl) ?_
    refine lv_iload hx hb dDecreePool_handOver_118 (lv_at hl 3 rfl) ?_
    have hPc := hP.sub (ws' := (wX q cI n S P (sOut x j))) [0, 1, 2, 3, 4, 5, 6, 7, 8, 9, 10, 11, 12, 13, 14, 15] rfl
    have hDc := hD.sub (ws' := (wX q cI n S P (sOut x j))) [0, 1, 2, 3, 4, 5, 6, 7, 8, 9, 10, 11, 12, 13, 14, 15] (by decide) rfl
    refine kx_i (va_runV (As := [.int (nI a), .int (nI t)]) (rest := []) ⟨hx, hb, hml, hown, hts⟩ ((c_seatOf l D cI cZ q n S P (sOut x j) a t (hn1) (hn5) (hS1) (hS4) (hP5) (hP64)) H.size) (cwV 2 hts (gV wd153 wd155 sl_DecreePool_seatOf wd1 wd156) rfl rfl rfl (by decide +kernel) ⟨Nat.le_of_ble_eq_true rfl, Nat.le_of_ble_eq_true rfl⟩) ⟨fb_PW, va_recv (q0 := 0) (ci := 0) hK hPc rfl rfl, pre_PW hK hPc hDc hZ⟩ rfl rfl hl.1 rfl (lv_room (Nat.le_of_ble_eq_true rfl)) dDecreePool_handOver_120 ⟨Nat.zero_le _, Nat.zero_le _⟩) hP hD hS hA [0, 1, 2, 3, 4, 5, 6, 7, 8, 9, 10, 11, 12, 13, 14, 15] [] rfl rfl (by decide) (by decide) (fun r w1 H locs hw hP hD hS => ?_)
    obtain ⟨rfl, rfl⟩ := hw
    have hP : va_P D vwCl (wX q cI n S P (sOut x j)) H := hP
    have hD : va_D A (wX q cI n S P (sOut x j)) := hD
    refine lv_istore hx hb dDecreePool_handOver_123 hl (by decide) rfl (fun ls hl => ?_)
    have hl : lv_has ls 10 [(9, .int (nI (a * S + t))), (8, .int (x.1 0 j 6)), (7, .int (x.1 0 j 5)), (6, .int (x.1 0 j 4)), (5, .int (nI t)), (4, .int (nI a)), (3, .int (nI b)), (2, .int (x.1 0 j 0)), (0, .ref (q 0)), (1, .int (nI j))] := hl
    refine lv_iload_n hx hb dDecreePool_handOver_125 rfl (lv_at hl 7 rfl) ?_
    by_cases k126_1 : x.1 0 j 0 = nI 1
    · refine lv_topi (nm_r (k126_1) ?_)
      refine lv_tableIn (tgt := 156) hx hb dDecreePool_handOver_126 (by decide) (by decide) rfl (by decide) ?_
      refine lv_aload_n hx hb dDecreePool_handOver_156 rfl (lv_at hl 8 rfl) ?_
      refine va_get (D := D) (ci := 0) (v := .ref (q 9)) (C := RDecreePool) (T := TDecreePool) (N := 9) hx hb hts (fun w h => mc (uDecreePool_in w h)) hown hK hP 0 rfl rfl 4 (by decide) (hts _ (mc wd109)) (fun _ h9 => h9) rfl dDecreePool_handOver_157 ?_
      refine lv_iload hx hb dDecreePool_handOver_160 (lv_at hl 0 rfl) ?_
      refine lv_iload hx hb dDecreePool_handOver_162 (lv_at hl 3 rfl) ?_
      have hPc := hP.sub (ws' := (wAc q cI n S (n * S) (sq S ((sOut x j).1 8)) (sq S ((sOut x j).1 9)) (sq S ((sOut x j).1 10)))) [9, 10, 11, 12] rfl
      have hDc := hD.sub (ws' := (wAc q cI n S (n * S) (sq S ((sOut x j).1 8)) (sq S ((sOut x j).1 9)) (sq S ((sOut x j).1 10)))) [9, 10, 11, 12] (by decide) rfl
      refine kx_i (va_runV (As := [.int (nI (a * S + t)), .int (x.1 0 j 4)]) (rest := []) ⟨hx, hb, hml, hown, hts⟩ ((c_promise l D cI cZ q n S (n * S) (sq S ((sOut x j).1 8)) (sq S ((sOut x j).1 9)) (sq S ((sOut x j).1 10)) (a * S + t) (x.1 0 j 4) (L20 hn5 hS4) (seat_lt ha ht)) H.size) (cwV 2 hts (gV wd232 wd233 wd234 wd5 wd235) rfl rfl rfl (by decide +kernel) ⟨Nat.le_of_ble_eq_true rfl, Nat.le_of_ble_eq_true rfl⟩) ⟨fb_PW, va_recv (q0 := 0) (ci := 3) hK hPc rfl rfl, pre_PW hK hPc hDc hZ⟩ rfl rfl hl.1 rfl (lv_room (Nat.le_of_ble_eq_true rfl)) dDecreePool_handOver_164 ⟨Nat.zero_le _, Nat.zero_le _⟩) hP hD hS hA [9, 10, 11, 12] [0, 1, 2, 3, 4, 5, 6, 7, 8, 13, 14, 15] rfl rfl (by decide) (by decide) (fun r w1 H locs hw hP hD hS => ?_)
      rcases hw with ⟨rfl, h164, rfl⟩ | ⟨rfl, h164, rfl⟩
      · have hP : va_P D vwCl (wD q cI n S P (n * S) (nI (msk (col ((sOut x j).1 13) 0) n)) ((sOut x j).1 12 0 0) ((sOut x j).1 12 0 1) ((sOut x j).1 0) (cntx P (sOut x j)) (sq S ((sOut x j).1 1)) (sq S ((sOut x j).1 2)) (sq S ((sOut x j).1 3)) (sq S ((sOut x j).1 4)) (sq S ((sOut x j).1 5)) (upd (sq S ((sOut x j).1 8)) (a * S + t) (x.1 0 j 4)) (sq S ((sOut x j).1 9)) (sq S ((sOut x j).1 10)) (hq n S ((sOut x j).2 0)) (sq S ((sOut x j).1 11))) H := hP.sub [0, 1, 2, 3, 4, 5, 6, 7, 8, 12, 13, 14, 15, 9, 10, 11] rfl
        have hD : va_D A (wD q cI n S P (n * S) (nI (msk (col ((sOut x j).1 13) 0) n)) ((sOut x j).1 12 0 0) ((sOut x j).1 12 0 1) ((sOut x j).1 0) (cntx P (sOut x j)) (sq S ((sOut x j).1 1)) (sq S ((sOut x j).1 2)) (sq S ((sOut x j).1 3)) (sq S ((sOut x j).1 4)) (sq S ((sOut x j).1 5)) (upd (sq S ((sOut x j).1 8)) (a * S + t) (x.1 0 j 4)) (sq S ((sOut x j).1 9)) (sq S ((sOut x j).1 10)) (hq n S ((sOut x j).2 0)) (sq S ((sOut x j).1 11))) := hD.sub [0, 1, 2, 3, 4, 5, 6, 7, 8, 12, 13, 14, 15, 9, 10, 11] (by decide) rfl
        rw [sq_at ht] at h164
        refine lv_if_eq (tgt := 309) hx hb dDecreePool_handOver_167 (by decide) (fun h9 => absurd h9 (by decide)) (fun _ => ?_)
        have hW2 : (wD q cI n S P (n * S) (nI (msk (col ((sOut x j).1 13) 0) n)) ((sOut x j).1 12 0 0) ((sOut x j).1 12 0 1) ((sOut x j).1 0) (cntx P (sOut x j)) (sq S ((sOut x j).1 1)) (sq S ((sOut x j).1 2)) (sq S ((sOut x j).1 3)) (sq S ((sOut x j).1 4)) (sq S ((sOut x j).1 5)) (upd (sq S ((sOut x j).1 8)) (a * S + t) (x.1 0 j 4)) (sq S ((sOut x j).1 9)) (sq S ((sOut x j).1 10)) (hq n S ((sOut x j).2 0)) (sq S ((sOut x j).1 11))) = (wX q cI n S P (put (sOut x j) 8 a t (x.1 0 j 4))) := by rw [sq_up ht]; try rfl
        rw [hW2] at hP hD
        refine lv_aload_n hx hb dDecreePool_handOver_170 rfl (lv_at hl 8 rfl) ?_
        refine va_get (D := D) (ci := 0) (v := .ref (q 1)) (C := RDecreePool) (T := TDecreePool) (N := 9) hx hb hts (fun w h => mc (uDecreePool_in w h)) hown hK hP 0 rfl rfl 2 (by decide) (hts _ (mc wd107)) (fun _ h9 => h9) rfl dDecreePool_handOver_171 ?_
        refine lv_iconst (v := nI 2) hx hb dDecreePool_handOver_174 (by decide) ?_
        refine lv_iload hx hb dDecreePool_handOver_175 (lv_at hl 5 rfl) ?_
        refine lv_iload_n hx hb dDecreePool_handOver_177 rfl (lv_at hl 6 rfl) ?_
        refine lv_iload hx hb dDecreePool_handOver_178 (lv_at hl 4 rfl) ?_
        refine lv_iload hx hb dDecreePool_handOver_180 (lv_at hl 3 rfl) ?_
        refine lv_aload_n hx hb dDecreePool_handOver_182 rfl (lv_at hl 8 rfl) ?_
        refine va_get (D := D) (ci := 0) (v := .ref (q 9)) (C := RDecreePool) (T := TDecreePool) (N := 9) hx hb hts (fun w h => mc (uDecreePool_in w h)) hown hK hP 0 rfl rfl 4 (by decide) (hts _ (mc wd109)) (fun _ h9 => h9) rfl dDecreePool_handOver_183 ?_
        refine lv_iload hx hb dDecreePool_handOver_186 (lv_at hl 0 rfl) ?_
        have hPc := hP.sub (ws' := (wAc q cI n S (n * S) (sq S ((put (sOut x j) 8 a t (x.1 0 j 4)).1 8)) (sq S ((put (sOut x j) 8 a t (x.1 0 j 4)).1 9)) (sq S ((put (sOut x j) 8 a t (x.1 0 j 4)).1 10)))) [9, 10, 11, 12] rfl
        have hDc := hD.sub (ws' := (wAc q cI n S (n * S) (sq S ((put (sOut x j) 8 a t (x.1 0 j 4)).1 8)) (sq S ((put (sOut x j) 8 a t (x.1 0 j 4)).1 9)) (sq S ((put (sOut x j) 8 a t (x.1 0 j 4)).1 10)))) [9, 10, 11, 12] (by decide) rfl
        refine kx_i (va_runV (As := [.int (nI (a * S + t))]) (rest := [.int (x.1 0 j 4), .int (nI t), .int (nI b), .int (nI a), .int (nI 2), .ref (q 1)]) ⟨hx, hb, hml, hown, hts⟩ ((c_ac_acceptedValue l D cI cZ q n S (n * S) (sq S ((put (sOut x j) 8 a t (x.1 0 j 4)).1 8)) (sq S ((put (sOut x j) 8 a t (x.1 0 j 4)).1 9)) (sq S ((put (sOut x j) 8 a t (x.1 0 j 4)).1 10)) (a * S + t) (L20 hn5 hS4) (seat_lt ha ht)) H.size) (cwV 1 hts (gV wd236 wd237 wd238 wd5 wd239) rfl rfl rfl (by decide +kernel) ⟨Nat.le_of_ble_eq_true rfl, Nat.le_of_ble_eq_true rfl⟩) ⟨fb_PW, va_recv (q0 := 0) (ci := 3) hK hPc rfl rfl, pre_PW hK hPc hDc hZ⟩ rfl rfl hl.1 rfl (lv_room (Nat.le_of_ble_eq_true rfl)) dDecreePool_handOver_188 ⟨Nat.zero_le _, Nat.zero_le _⟩) hP hD hS hA [9, 10, 11, 12] [0, 1, 2, 3, 4, 5, 6, 7, 8, 13, 14, 15] rfl rfl (by decide) (by decide) (fun r w1 H locs hw hP hD hS => ?_)
        obtain ⟨rfl, rfl⟩ := hw
        have hP : va_P D vwCl (wX q cI n S P (put (sOut x j) 8 a t (x.1 0 j 4))) H := hP.sub [0, 1, 2, 3, 4, 5, 6, 7, 8, 12, 13, 14, 15, 9, 10, 11] rfl
        have hD : va_D A (wX q cI n S P (put (sOut x j) 8 a t (x.1 0 j 4))) := hD.sub [0, 1, 2, 3, 4, 5, 6, 7, 8, 12, 13, 14, 15, 9, 10, 11] (by decide) rfl
        refine lv_topi (nm_r (show sq S ((put (sOut x j) 8 a t (x.1 0 j 4)).1 10) (a * S + t) = x.1 10 a t from sq_at ht) ?_)
        refine lv_aload_n hx hb dDecreePool_handOver_191 rfl (lv_at hl 8 rfl) ?_
        refine va_get (D := D) (ci := 0) (v := .ref (q 9)) (C := RDecreePool) (T := TDecreePool) (N := 9) hx hb hts (fun w h => mc (uDecreePool_in w h)) hown hK hP 0 rfl rfl 4 (by decide) (hts _ (mc wd109)) (fun _ h9 => h9) rfl dDecreePool_handOver_192 ?_
        refine lv_iload hx hb dDecreePool_handOver_195 (lv_at hl 0 rfl) ?_
        have hPc := hP.sub (ws' := (wAc q cI n S (n * S) (sq S ((put (sOut x j) 8 a t (x.1 0 j 4)).1 8)) (sq S ((put (sOut x j) 8 a t (x.1 0 j 4)).1 9)) (sq S ((put (sOut x j) 8 a t (x.1 0 j 4)).1 10)))) [9, 10, 11, 12] rfl
        have hDc := hD.sub (ws' := (wAc q cI n S (n * S) (sq S ((put (sOut x j) 8 a t (x.1 0 j 4)).1 8)) (sq S ((put (sOut x j) 8 a t (x.1 0 j 4)).1 9)) (sq S ((put (sOut x j) 8 a t (x.1 0 j 4)).1 10)))) [9, 10, 11, 12] (by decide) rfl
        refine kx_i (va_runV (As := [.int (nI (a * S + t))]) (rest := [.int (x.1 10 a t), .int (x.1 0 j 4), .int (nI t), .int (nI b), .int (nI a), .int (nI 2), .ref (q 1)]) ⟨hx, hb, hml, hown, hts⟩ ((c_ac_acceptedBallot l D cI cZ q n S (n * S) (sq S ((put (sOut x j) 8 a t (x.1 0 j 4)).1 8)) (sq S ((put (sOut x j) 8 a t (x.1 0 j 4)).1 9)) (sq S ((put (sOut x j) 8 a t (x.1 0 j 4)).1 10)) (a * S + t) (L20 hn5 hS4) (seat_lt ha ht)) H.size) (cwV 1 hts (gV wd240 wd241 wd242 wd5 wd243) rfl rfl rfl (by decide +kernel) ⟨Nat.le_of_ble_eq_true rfl, Nat.le_of_ble_eq_true rfl⟩) ⟨fb_PW, va_recv (q0 := 0) (ci := 3) hK hPc rfl rfl, pre_PW hK hPc hDc hZ⟩ rfl rfl hl.1 rfl (lv_room (Nat.le_of_ble_eq_true rfl)) dDecreePool_handOver_197 ⟨Nat.zero_le _, Nat.zero_le _⟩) hP hD hS hA [9, 10, 11, 12] [0, 1, 2, 3, 4, 5, 6, 7, 8, 13, 14, 15] rfl rfl (by decide) (by decide) (fun r w1 H locs hw hP hD hS => ?_)
        obtain ⟨rfl, rfl⟩ := hw
        have hP : va_P D vwCl (wX q cI n S P (put (sOut x j) 8 a t (x.1 0 j 4))) H := hP.sub [0, 1, 2, 3, 4, 5, 6, 7, 8, 12, 13, 14, 15, 9, 10, 11] rfl
        have hD : va_D A (wX q cI n S P (put (sOut x j) 8 a t (x.1 0 j 4))) := hD.sub [0, 1, 2, 3, 4, 5, 6, 7, 8, 12, 13, 14, 15, 9, 10, 11] (by decide) rfl
        refine lv_topi (nm_r (show sq S ((put (sOut x j) 8 a t (x.1 0 j 4)).1 9) (a * S + t) = x.1 9 a t from sq_at ht) ?_)
        have hPc := hP.sub (ws' := (wPo q cI P ((put (sOut x j) 8 a t (x.1 0 j 4)).1 0) (cntx P (put (sOut x j) 8 a t (x.1 0 j 4))))) [1, 2] rfl
        have hDc := hD.sub (ws' := (wPo q cI P ((put (sOut x j) 8 a t (x.1 0 j 4)).1 0) (cntx P (put (sOut x j) 8 a t (x.1 0 j 4))))) [1, 2] (by decide) rfl
        refine kx_i (va_runV (As := [.int (nI 2), .int (nI a), .int (nI b), .int (nI t), .int (x.1 0 j 4), .int (x.1 10 a t), .int (x.1 9 a t)]) (rest := []) ⟨hx, hb, hml, hown, hts⟩ ((c_send l D cI cZ q P ((put (sOut x j) 8 a t (x.1 0 j 4)).1 0) (cntx P (put (sOut x j) 8 a t (x.1 0 j 4))) (nI 2) (nI a) (nI b) (nI t) (x.1 0 j 4) (x.1 10 a t) (x.1 9 a t) (hP64)) H.size) (cwV 7 hts (gV wd173 wd174 wd175 wd2 wd176) rfl rfl rfl (by decide +kernel) ⟨Nat.le_of_ble_eq_true rfl, Nat.le_of_ble_eq_true rfl⟩) ⟨fb_PW, va_recv (q0 := 0) (ci := 1) hK hPc rfl rfl, pre_PW hK hPc hDc hZ⟩ rfl rfl hl.1 rfl (lv_room (Nat.le_of_ble_eq_true rfl)) dDecreePool_handOver_200 ⟨Nat.zero_le _, Nat.zero_le _⟩) hP hD hS hA [1, 2] [0, 3, 4, 5, 6, 7, 8, 9, 10, 11, 12, 13, 14, 15] rfl rfl (by decide) (by decide) (fun r w1 H locs hw hP hD hS => ?_)
        rcases hw with ⟨rfl, h200, rfl⟩ | ⟨rfl, h200, rfl⟩
        · have hP : va_P D vwCl (wD q cI n S P (n * S) (nI (msk (col ((put (sOut x j) 8 a t (x.1 0 j 4)).1 13) 0) n)) ((put (sOut x j) 8 a t (x.1 0 j 4)).1 12 0 0) ((put (sOut x j) 8 a t (x.1 0 j 4)).1 12 0 1) (up7 ((put (sOut x j) 8 a t (x.1 0 j 4)).1 0) (lst (col ((put (sOut x j) 8 a t (x.1 0 j 4)).1 0) 0) P 0) (nI 2) (nI a) (nI b) (nI t) (x.1 0 j 4) (x.1 10 a t) (x.1 9 a t)) ((cntx P (put (sOut x j) 8 a t (x.1 0 j 4))) + 1) (sq S ((put (sOut x j) 8 a t (x.1 0 j 4)).1 1)) (sq S ((put (sOut x j) 8 a t (x.1 0 j 4)).1 2)) (sq S ((put (sOut x j) 8 a t (x.1 0 j 4)).1 3)) (sq S ((put (sOut x j) 8 a t (x.1 0 j 4)).1 4)) (sq S ((put (sOut x j) 8 a t (x.1 0 j 4)).1 5)) (sq S ((put (sOut x j) 8 a t (x.1 0 j 4)).1 8)) (sq S ((put (sOut x j) 8 a t (x.1 0 j 4)).1 9)) (sq S ((put (sOut x j) 8 a t (x.1 0 j 4)).1 10)) (hq n S ((put (sOut x j) 8 a t (x.1 0 j 4)).2 0)) (sq S ((put (sOut x j) 8 a t (x.1 0 j 4)).1 11))) H := hP.sub [0, 14, 15, 1, 2, 3, 4, 5, 6, 7, 8, 9, 10, 11, 12, 13] rfl
          have hD : va_D A (wD q cI n S P (n * S) (nI (msk (col ((put (sOut x j) 8 a t (x.1 0 j 4)).1 13) 0) n)) ((put (sOut x j) 8 a t (x.1 0 j 4)).1 12 0 0) ((put (sOut x j) 8 a t (x.1 0 j 4)).1 12 0 1) (up7 ((put (sOut x j) 8 a t (x.1 0 j 4)).1 0) (lst (col ((put (sOut x j) 8 a t (x.1 0 j 4)).1 0) 0) P 0) (nI 2) (nI a) (nI b) (nI t) (x.1 0 j 4) (x.1 10 a t) (x.1 9 a t)) ((cntx P (put (sOut x j) 8 a t (x.1 0 j 4))) + 1) (sq S ((put (sOut x j) 8 a t (x.1 0 j 4)).1 1)) (sq S ((put (sOut x j) 8 a t (x.1 0 j 4)).1 2)) (sq S ((put (sOut x j) 8 a t (x.1 0 j 4)).1 3)) (sq S ((put (sOut x j) 8 a t (x.1 0 j 4)).1 4)) (sq S ((put (sOut x j) 8 a t (x.1 0 j 4)).1 5)) (sq S ((put (sOut x j) 8 a t (x.1 0 j 4)).1 8)) (sq S ((put (sOut x j) 8 a t (x.1 0 j 4)).1 9)) (sq S ((put (sOut x j) 8 a t (x.1 0 j 4)).1 10)) (hq n S ((put (sOut x j) 8 a t (x.1 0 j 4)).2 0)) (sq S ((put (sOut x j) 8 a t (x.1 0 j 4)).1 11))) := hD.sub [0, 14, 15, 1, 2, 3, 4, 5, 6, 7, 8, 9, 10, 11, 12, 13] (by decide) rfl
          have hW3 : (wD q cI n S P (n * S) (nI (msk (col ((put (sOut x j) 8 a t (x.1 0 j 4)).1 13) 0) n)) ((put (sOut x j) 8 a t (x.1 0 j 4)).1 12 0 0) ((put (sOut x j) 8 a t (x.1 0 j 4)).1 12 0 1) (up7 ((put (sOut x j) 8 a t (x.1 0 j 4)).1 0) (lst (col ((put (sOut x j) 8 a t (x.1 0 j 4)).1 0) 0) P 0) (nI 2) (nI a) (nI b) (nI t) (x.1 0 j 4) (x.1 10 a t) (x.1 9 a t)) ((cntx P (put (sOut x j) 8 a t (x.1 0 j 4))) + 1) (sq S ((put (sOut x j) 8 a t (x.1 0 j 4)).1 1)) (sq S ((put (sOut x j) 8 a t (x.1 0 j 4)).1 2)) (sq S ((put (sOut x j) 8 a t (x.1 0 j 4)).1 3)) (sq S ((put (sOut x j) 8 a t (x.1 0 j 4)).1 4)) (sq S ((put (sOut x j) 8 a t (x.1 0 j 4)).1 5)) (sq S ((put (sOut x j) 8 a t (x.1 0 j 4)).1 8)) (sq S ((put (sOut x j) 8 a t (x.1 0 j 4)).1 9)) (sq S ((put (sOut x j) 8 a t (x.1 0 j 4)).1 10)) (hq n S ((put (sOut x j) 8 a t (x.1 0 j 4)).2 0)) (sq S ((put (sOut x j) 8 a t (x.1 0 j 4)).1 11))) = (wX q cI n S P (send1 P (put (sOut x j) 8 a t (x.1 0 j 4)) (nI 2) (nI a) (nI b) (nI t) (x.1 0 j 4) (x.1 10 a t) (x.1 9 a t))) := wX_send (y := put (sOut x j) 8 a t (x.1 0 j 4)) (by decide) (show cntx P (put x 0 j 0 (nI 0)) < P by omega)
          rw [hW3] at hP hD
          refine lv_pop hx hb dDecreePool_handOver_203 rfl ?_
          refine lv_goto (tgt := 309) hx hb dDecreePool_handOver_204 (by decide) ?_
          refine lv_iload_n hx hb dDecreePool_handOver_309 rfl (lv_at hl 7 rfl) ?_
          have hres : sHo n P x j = (nI 1, send1 P (put (sOut x j) 8 a t (x.1 0 j 4)) (nI 2) (nI a) (nI b) (nI t) (x.1 0 j 4) (x.1 10 a t) (x.1 9 a t)) := by rw [sHo_u iB iA iT h97, k126_1, sTake_1, if_pos h164]; try rfl
          exact W.iret (v := x.1 0 j 0) hx hb hr (fun t9 ht9 hW9 => ⟨⟨x.1 0 j 0, (wX q cI n S P (send1 P (put (sOut x j) 8 a t (x.1 0 j 4)) (nI 2) (nI a) (nI b) (nI t) (x.1 0 j 4) (x.1 10 a t) (x.1 9 a t))), rfl, ⟨by rw [hres]; exact k126_1, by rw [hres]⟩, by rw [ht9]; exact hP, va_K.moved hW9.alike hK, hD⟩, hS.F ht9⟩) hS.2.2 dDecreePool_handOver_310
        · have hP : va_P D vwCl (wX q cI n S P (put (sOut x j) 8 a t (x.1 0 j 4))) H := hP.sub [0, 14, 15, 1, 2, 3, 4, 5, 6, 7, 8, 9, 10, 11, 12, 13] rfl
          have hD : va_D A (wX q cI n S P (put (sOut x j) 8 a t (x.1 0 j 4))) := hD.sub [0, 14, 15, 1, 2, 3, 4, 5, 6, 7, 8, 9, 10, 11, 12, 13] (by decide) rfl
          exact absurd h200 (Nat.ne_of_lt (lst_lt (show cntx P (put x 0 j 0 (nI 0)) < P by omega)))
      · have hP : va_P D vwCl (wX q cI n S P (sOut x j)) H := hP.sub [0, 1, 2, 3, 4, 5, 6, 7, 8, 12, 13, 14, 15, 9, 10, 11] rfl
        have hD : va_D A (wX q cI n S P (sOut x j)) := hD.sub [0, 1, 2, 3, 4, 5, 6, 7, 8, 12, 13, 14, 15, 9, 10, 11] (by decide) rfl
        rw [sq_at ht] at h164
        refine lv_if_eq (tgt := 309) hx hb dDecreePool_handOver_167 (by decide) (fun _ => ?_) (fun h9 => absurd (by decide) h9)
        refine lv_iload_n hx hb dDecreePool_handOver_309 rfl (lv_at hl 7 rfl) ?_
        have hres : sHo n P x j = (nI 1, sOut x j) := by rw [sHo_u iB iA iT h97, k126_1, sTake_1, if_neg h164]; try rfl
        exact W.iret (v := x.1 0 j 0) hx hb hr (fun t9 ht9 hW9 => ⟨⟨x.1 0 j 0, (wX q cI n S P (sOut x j)), rfl, ⟨by rw [hres]; exact k126_1, by rw [hres]⟩, by rw [ht9]; exact hP, va_K.moved hW9.alike hK, hD⟩, hS.F ht9⟩) hS.2.2 dDecreePool_handOver_310
    by_cases k126_2 : x.1 0 j 0 = nI 2
    · refine lv_topi (nm_r (k126_2) ?_)
      refine lv_tableIn (tgt := 207) hx hb dDecreePool_handOver_126 (by decide) (by decide) rfl (by decide) ?_
      refine lv_aload_n hx hb dDecreePool_handOver_207 rfl (lv_at hl 8 rfl) ?_
      refine va_get (D := D) (ci := 0) (v := .ref (q 3)) (C := RDecreePool) (T := TDecreePool) (N := 9) hx hb hts (fun w h => mc (uDecreePool_in w h)) hown hK hP 0 rfl rfl 3 (by decide) (hts _ (mc wd108)) (fun _ h9 => h9) rfl dDecreePool_handOver_208 ?_
      refine lv_iload hx hb dDecreePool_handOver_211 (lv_at hl 0 rfl) ?_
      refine lv_iload_n hx hb dDecreePool_handOver_213 rfl (lv_at hl 6 rfl) ?_
      refine lv_iload hx hb dDecreePool_handOver_214 (lv_at hl 3 rfl) ?_
      refine lv_iload hx hb dDecreePool_handOver_216 (lv_at hl 1 rfl) ?_
      refine lv_iload hx hb dDecreePool_handOver_218 (lv_at hl 2 rfl) ?_
      have hPc := hP.sub (ws' := (wPr q cI n (n * S) (sq S ((sOut x j).1 1)) (sq S ((sOut x j).1 2)) (sq S ((sOut x j).1 3)) (sq S ((sOut x j).1 4)) (sq S ((sOut x j).1 5)))) [3, 4, 5, 6, 7, 8] rfl
      have hDc := hD.sub (ws' := (wPr q cI n (n * S) (sq S ((sOut x j).1 1)) (sq S ((sOut x j).1 2)) (sq S ((sOut x j).1 3)) (sq S ((sOut x j).1 4)) (sq S ((sOut x j).1 5)))) [3, 4, 5, 6, 7, 8] (by decide) rfl
      refine kx_i (va_runV (As := [.int (nI (a * S + t)), .int (nI b), .int (x.1 0 j 4), .int (x.1 0 j 6), .int (x.1 0 j 5)]) (rest := []) ⟨hx, hb, hml, hown, hts⟩ ((c_takePromise l D cI cZ q n (n * S) (sq S ((sOut x j).1 1)) (sq S ((sOut x j).1 2)) (sq S ((sOut x j).1 3)) (sq S ((sOut x j).1 4)) (sq S ((sOut x j).1 5)) (a * S + t) (nI b) (x.1 0 j 4) (x.1 0 j 6) (x.1 0 j 5) (e1 ||| 2 ^ b) (L20 hn5 hS4) (seat_lt ha ht) (hn5) (by rw [sq_at ht]; show orb (x.1 3 a t) (nI b) = _; rw [he2]; exact hE.1) (hE.2)) H.size) (cwV 5 hts (gV wd244 wd245 wd246 wd3 wd247) rfl rfl rfl (by decide +kernel) ⟨Nat.le_of_ble_eq_true rfl, Nat.le_of_ble_eq_true rfl⟩) ⟨fb_PW, va_recv (q0 := 0) (ci := 2) hK hPc rfl rfl, pre_PW hK hPc hDc hZ⟩ rfl rfl hl.1 rfl (lv_room (Nat.le_of_ble_eq_true rfl)) dDecreePool_handOver_220 ⟨Nat.zero_le _, Nat.zero_le _⟩) hP hD hS hA [3, 4, 5, 6, 7, 8] [0, 1, 2, 9, 10, 11, 12, 13, 14, 15] rfl rfl (by decide) (by decide) (fun r w1 H locs hw hP hD hS => ?_)
      rcases hw with ⟨rfl, h220, rfl⟩ | ⟨rfl, h220, rfl⟩ | ⟨rfl, h220, rfl⟩
      · have hP : va_P D vwCl (wD q cI n S P (n * S) (nI (msk (col ((sOut x j).1 13) 0) n)) ((sOut x j).1 12 0 0) ((sOut x j).1 12 0 1) ((sOut x j).1 0) (cntx P (sOut x j)) (upd (sq S ((sOut x j).1 1)) (a * S + t) (nI 2)) (sq S ((sOut x j).1 2)) (upd (sq S ((sOut x j).1 3)) (a * S + t) (orb ((sq S ((sOut x j).1 3)) (a * S + t)) (nI b))) (if (sq S ((sOut x j).1 4)) (a * S + t) < (x.1 0 j 6) then upd (sq S ((sOut x j).1 4)) (a * S + t) (x.1 0 j 6) else (sq S ((sOut x j).1 4))) (if (sq S ((sOut x j).1 4)) (a * S + t) < (x.1 0 j 6) then upd (sq S ((sOut x j).1 5)) (a * S + t) (x.1 0 j 5) else (sq S ((sOut x j).1 5))) (sq S ((sOut x j).1 8)) (sq S ((sOut x j).1 9)) (sq S ((sOut x j).1 10)) (hq n S ((sOut x j).2 0)) (sq S ((sOut x j).1 11))) H := hP.sub [0, 1, 2, 10, 11, 12, 13, 14, 15, 3, 4, 5, 6, 7, 8, 9] rfl
        have hD : va_D A (wD q cI n S P (n * S) (nI (msk (col ((sOut x j).1 13) 0) n)) ((sOut x j).1 12 0 0) ((sOut x j).1 12 0 1) ((sOut x j).1 0) (cntx P (sOut x j)) (upd (sq S ((sOut x j).1 1)) (a * S + t) (nI 2)) (sq S ((sOut x j).1 2)) (upd (sq S ((sOut x j).1 3)) (a * S + t) (orb ((sq S ((sOut x j).1 3)) (a * S + t)) (nI b))) (if (sq S ((sOut x j).1 4)) (a * S + t) < (x.1 0 j 6) then upd (sq S ((sOut x j).1 4)) (a * S + t) (x.1 0 j 6) else (sq S ((sOut x j).1 4))) (if (sq S ((sOut x j).1 4)) (a * S + t) < (x.1 0 j 6) then upd (sq S ((sOut x j).1 5)) (a * S + t) (x.1 0 j 5) else (sq S ((sOut x j).1 5))) (sq S ((sOut x j).1 8)) (sq S ((sOut x j).1 9)) (sq S ((sOut x j).1 10)) (hq n S ((sOut x j).2 0)) (sq S ((sOut x j).1 11))) := hD.sub [0, 1, 2, 10, 11, 12, 13, 14, 15, 3, 4, 5, 6, 7, 8, 9] (by decide) rfl
        simp only [sq_at ht] at h220
        refine lv_if_eq (tgt := 309) hx hb dDecreePool_handOver_223 (by decide) (fun h9 => absurd h9 (by decide)) (fun _ => ?_)
        have hW4 : (wD q cI n S P (n * S) (nI (msk (col ((sOut x j).1 13) 0) n)) ((sOut x j).1 12 0 0) ((sOut x j).1 12 0 1) ((sOut x j).1 0) (cntx P (sOut x j)) (upd (sq S ((sOut x j).1 1)) (a * S + t) (nI 2)) (sq S ((sOut x j).1 2)) (upd (sq S ((sOut x j).1 3)) (a * S + t) (orb ((sq S ((sOut x j).1 3)) (a * S + t)) (nI b))) (if (sq S ((sOut x j).1 4)) (a * S + t) < (x.1 0 j 6) then upd (sq S ((sOut x j).1 4)) (a * S + t) (x.1 0 j 6) else (sq S ((sOut x j).1 4))) (if (sq S ((sOut x j).1 4)) (a * S + t) < (x.1 0 j 6) then upd (sq S ((sOut x j).1 5)) (a * S + t) (x.1 0 j 5) else (sq S ((sOut x j).1 5))) (sq S ((sOut x j).1 8)) (sq S ((sOut x j).1 9)) (sq S ((sOut x j).1 10)) (hq n S ((sOut x j).2 0)) (sq S ((sOut x j).1 11))) = (wX q cI n S P (put (sProm1 (sOut x j) a t (nI b) (x.1 0 j 5) (x.1 0 j 6)) 1 a t (nI 2))) := wX_prom2 (y := sOut x j) ht
        rw [hW4] at hP hD
        refine lv_aload_n hx hb dDecreePool_handOver_226 rfl (lv_at hl 8 rfl) ?_
        refine lv_iconst (v := nI 3) hx hb dDecreePool_handOver_227 (by decide) ?_
        refine lv_iload hx hb dDecreePool_handOver_228 (lv_at hl 5 rfl) ?_
        refine lv_iload hx hb dDecreePool_handOver_230 (lv_at hl 4 rfl) ?_
        refine lv_iload hx hb dDecreePool_handOver_232 (lv_at hl 3 rfl) ?_
        refine lv_aload_n hx hb dDecreePool_handOver_234 rfl (lv_at hl 8 rfl) ?_
        refine va_get (D := D) (ci := 0) (v := .ref (q 3)) (C := RDecreePool) (T := TDecreePool) (N := 9) hx hb hts (fun w h => mc (uDecreePool_in w h)) hown hK hP 0 rfl rfl 3 (by decide) (hts _ (mc wd108)) (fun _ h9 => h9) rfl dDecreePool_handOver_235 ?_
        refine lv_iload hx hb dDecreePool_handOver_238 (lv_at hl 0 rfl) ?_
        have hPc := hP.sub (ws' := (wPr q cI n (n * S) (sq S ((put (sProm1 (sOut x j) a t (nI b) (x.1 0 j 5) (x.1 0 j 6)) 1 a t (nI 2)).1 1)) (sq S ((put (sProm1 (sOut x j) a t (nI b) (x.1 0 j 5) (x.1 0 j 6)) 1 a t (nI 2)).1 2)) (sq S ((put (sProm1 (sOut x j) a t (nI b) (x.1 0 j 5) (x.1 0 j 6)) 1 a t (nI 2)).1 3)) (sq S ((put (sProm1 (sOut x j) a t (nI b) (x.1 0 j 5) (x.1 0 j 6)) 1 a t (nI 2)).1 4)) (sq S ((put (sProm1 (sOut x j) a t (nI b) (x.1 0 j 5) (x.1 0 j 6)) 1 a t (nI 2)).1 5)))) [3, 4, 5, 6, 7, 8] rfl
        have hDc := hD.sub (ws' := (wPr q cI n (n * S) (sq S ((put (sProm1 (sOut x j) a t (nI b) (x.1 0 j 5) (x.1 0 j 6)) 1 a t (nI 2)).1 1)) (sq S ((put (sProm1 (sOut x j) a t (nI b) (x.1 0 j 5) (x.1 0 j 6)) 1 a t (nI 2)).1 2)) (sq S ((put (sProm1 (sOut x j) a t (nI b) (x.1 0 j 5) (x.1 0 j 6)) 1 a t (nI 2)).1 3)) (sq S ((put (sProm1 (sOut x j) a t (nI b) (x.1 0 j 5) (x.1 0 j 6)) 1 a t (nI 2)).1 4)) (sq S ((put (sProm1 (sOut x j) a t (nI b) (x.1 0 j 5) (x.1 0 j 6)) 1 a t (nI 2)).1 5)))) [3, 4, 5, 6, 7, 8] (by decide) rfl
        refine kx_i (va_runV (As := [.int (nI (a * S + t))]) (rest := [.int (x.1 0 j 4), .int (nI t), .int (nI a), .int (nI 3), .ref (q 0)]) ⟨hx, hb, hml, hown, hts⟩ ((c_pr_value l D cI cZ q n (n * S) (sq S ((put (sProm1 (sOut x j) a t (nI b) (x.1 0 j 5) (x.1 0 j 6)) 1 a t (nI 2)).1 1)) (sq S ((put (sProm1 (sOut x j) a t (nI b) (x.1 0 j 5) (x.1 0 j 6)) 1 a t (nI 2)).1 2)) (sq S ((put (sProm1 (sOut x j) a t (nI b) (x.1 0 j 5) (x.1 0 j 6)) 1 a t (nI 2)).1 3)) (sq S ((put (sProm1 (sOut x j) a t (nI b) (x.1 0 j 5) (x.1 0 j 6)) 1 a t (nI 2)).1 4)) (sq S ((put (sProm1 (sOut x j) a t (nI b) (x.1 0 j 5) (x.1 0 j 6)) 1 a t (nI 2)).1 5)) (a * S + t) (L20 hn5 hS4) (seat_lt ha ht)) H.size) (cwV 1 hts (gV wd252 wd253 wd254 wd3 wd255) rfl rfl rfl (by decide +kernel) ⟨Nat.le_of_ble_eq_true rfl, Nat.le_of_ble_eq_true rfl⟩) ⟨fb_PW, va_recv (q0 := 0) (ci := 2) hK hPc rfl rfl, pre_PW hK hPc hDc hZ⟩ rfl rfl hl.1 rfl (lv_room (Nat.le_of_ble_eq_true rfl)) dDecreePool_handOver_240 ⟨Nat.zero_le _, Nat.zero_le _⟩) hP hD hS hA [3, 4, 5, 6, 7, 8] [0, 1, 2, 9, 10, 11, 12, 13, 14, 15] rfl rfl (by decide) (by decide) (fun r w1 H locs hw hP hD hS => ?_)
        obtain ⟨rfl, rfl⟩ := hw
        have hP : va_P D vwCl (wX q cI n S P (put (sProm1 (sOut x j) a t (nI b) (x.1 0 j 5) (x.1 0 j 6)) 1 a t (nI 2))) H := hP.sub [0, 1, 2, 10, 11, 12, 13, 14, 15, 3, 4, 5, 6, 7, 8, 9] rfl
        have hD : va_D A (wX q cI n S P (put (sProm1 (sOut x j) a t (nI b) (x.1 0 j 5) (x.1 0 j 6)) 1 a t (nI 2))) := hD.sub [0, 1, 2, 10, 11, 12, 13, 14, 15, 3, 4, 5, 6, 7, 8, 9] (by decide) rfl
        refine lv_topi (nm_r (show sq S ((put (sProm1 (sOut x j) a t (nI b) (x.1 0 j 5) (x.1 0 j 6)) 1 a t (nI 2)).1 5) (a * S + t) = (sProm1 (sOut x j) a t (nI b) (x.1 0 j 5) (x.1 0 j 6)).1 5 a t from sq_at ht) ?_)
        have hPc := hP.sub (ws' := (wX q cI n S P (put (sProm1 (sOut x j) a t (nI b) (x.1 0 j 5) (x.1 0 j 6)) 1 a t (nI 2)))) [0, 1, 2, 3, 4, 5, 6, 7, 8, 9, 10, 11, 12, 13, 14, 15] rfl
        have hDc := hD.sub (ws' := (wX q cI n S P (put (sProm1 (sOut x j) a t (nI b) (x.1 0 j 5) (x.1 0 j 6)) 1 a t (nI 2)))) [0, 1, 2, 3, 4, 5, 6, 7, 8, 9, 10, 11, 12, 13, 14, 15] (by decide) rfl
        refine kx_v (va_runV (As := [.int (nI 3), .int (nI a), .int (nI t), .int (x.1 0 j 4), .int ((sProm1 (sOut x j) a t (nI b) (x.1 0 j 5) (x.1 0 j 6)).1 5 a t)]) (rest := []) ⟨hx, hb, hml, hown, hts⟩ ((c_sendToAll l D cI cZ q n S P (put (sProm1 (sOut x j) a t (nI b) (x.1 0 j 5) (x.1 0 j 6)) 1 a t (nI 2)) (nI 3) (nI a) (nI t) (x.1 0 j 4) ((sProm1 (sOut x j) a t (nI b) (x.1 0 j 5) (x.1 0 j 6)).1 5 a t) (hn1) (hn5) (hS1) (hS4) (hP5) (hP64) (by decide) (by rw [cnt_prom]; have := hroom h97 (Or.inl ⟨k126_2, h220⟩); show cntx P (put x 0 j 0 (nI 0)) + n ≤ P; omega)) H.size) (cwV 5 hts (gV wd169 wd171 sl_DecreePool_sendToAll wd1 wd172) rfl rfl rfl (by decide +kernel) ⟨Nat.le_of_ble_eq_true rfl, Nat.le_of_ble_eq_true rfl⟩) ⟨fb_PW, va_recv (q0 := 0) (ci := 0) hK hPc rfl rfl, pre_PW hK hPc hDc hZ⟩ rfl rfl hl.1 rfl (lv_room (Nat.le_of_ble_eq_true rfl)) dDecreePool_handOver_243 ⟨Nat.zero_le _, Nat.zero_le _⟩) hP hD hS hA [0, 1, 2, 3, 4, 5, 6, 7, 8, 9, 10, 11, 12, 13, 14, 15] [] rfl rfl (by decide) (by decide) (fun w1 H locs hw hP hD hS => ?_)
        obtain rfl := hw
        have hP : va_P D vwCl (wX q cI n S P (sendA P (put (sProm1 (sOut x j) a t (nI b) (x.1 0 j 5) (x.1 0 j 6)) 1 a t (nI 2)) (nI 3) (nI a) (nI t) (x.1 0 j 4) ((sProm1 (sOut x j) a t (nI b) (x.1 0 j 5) (x.1 0 j 6)).1 5 a t) n)) H := hP
        have hD : va_D A (wX q cI n S P (sendA P (put (sProm1 (sOut x j) a t (nI b) (x.1 0 j 5) (x.1 0 j 6)) 1 a t (nI 2)) (nI 3) (nI a) (nI t) (x.1 0 j 4) ((sProm1 (sOut x j) a t (nI b) (x.1 0 j 5) (x.1 0 j 6)).1 5 a t) n)) := hD
        refine lv_goto (tgt := 309) hx hb dDecreePool_handOver_246 (by decide) ?_
        refine lv_iload_n hx hb dDecreePool_handOver_309 rfl (lv_at hl 7 rfl) ?_
        have hres : sHo n P x j = (nI 2, sendA P (put (sProm1 (sOut x j) a t (nI b) (x.1 0 j 5) (x.1 0 j 6)) 1 a t (nI 2)) (nI 3) (nI a) (nI t) (x.1 0 j 4) ((sProm1 (sOut x j) a t (nI b) (x.1 0 j 5) (x.1 0 j 6)).1 5 a t) n) := by rw [sHo_u iB iA iT h97, k126_2, sTake_2, if_pos h220.1, hpo, if_pos h220.2]; try rfl
        exact W.iret (v := x.1 0 j 0) hx hb hr (fun t9 ht9 hW9 => ⟨⟨x.1 0 j 0, (wX q cI n S P (sendA P (put (sProm1 (sOut x j) a t (nI b) (x.1 0 j 5) (x.1 0 j 6)) 1 a t (nI 2)) (nI 3) (nI a) (nI t) (x.1 0 j 4) ((sProm1 (sOut x j) a t (nI b) (x.1 0 j 5) (x.1 0 j 6)).1 5 a t) n)), rfl, ⟨by rw [hres]; exact k126_2, by rw [hres]⟩, by rw [ht9]; exact hP, va_K.moved hW9.alike hK, hD⟩, hS.F ht9⟩) hS.2.2 dDecreePool_handOver_310
      · have hP : va_P D vwCl (wD q cI n S P (n * S) (nI (msk (col ((sOut x j).1 13) 0) n)) ((sOut x j).1 12 0 0) ((sOut x j).1 12 0 1) ((sOut x j).1 0) (cntx P (sOut x j)) (sq S ((sOut x j).1 1)) (sq S ((sOut x j).1 2)) (upd (sq S ((sOut x j).1 3)) (a * S + t) (orb ((sq S ((sOut x j).1 3)) (a * S + t)) (nI b))) (if (sq S ((sOut x j).1 4)) (a * S + t) < (x.1 0 j 6) then upd (sq S ((sOut x j).1 4)) (a * S + t) (x.1 0 j 6) else (sq S ((sOut x j).1 4))) (if (sq S ((sOut x j).1 4)) (a * S + t) < (x.1 0 j 6) then upd (sq S ((sOut x j).1 5)) (a * S + t) (x.1 0 j 5) else (sq S ((sOut x j).1 5))) (sq S ((sOut x j).1 8)) (sq S ((sOut x j).1 9)) (sq S ((sOut x j).1 10)) (hq n S ((sOut x j).2 0)) (sq S ((sOut x j).1 11))) H := hP.sub [0, 1, 2, 10, 11, 12, 13, 14, 15, 3, 4, 5, 6, 7, 8, 9] rfl
        have hD : va_D A (wD q cI n S P (n * S) (nI (msk (col ((sOut x j).1 13) 0) n)) ((sOut x j).1 12 0 0) ((sOut x j).1 12 0 1) ((sOut x j).1 0) (cntx P (sOut x j)) (sq S ((sOut x j).1 1)) (sq S ((sOut x j).1 2)) (upd (sq S ((sOut x j).1 3)) (a * S + t) (orb ((sq S ((sOut x j).1 3)) (a * S + t)) (nI b))) (if (sq S ((sOut x j).1 4)) (a * S + t) < (x.1 0 j 6) then upd (sq S ((sOut x j).1 4)) (a * S + t) (x.1 0 j 6) else (sq S ((sOut x j).1 4))) (if (sq S ((sOut x j).1 4)) (a * S + t) < (x.1 0 j 6) then upd (sq S ((sOut x j).1 5)) (a * S + t) (x.1 0 j 5) else (sq S ((sOut x j).1 5))) (sq S ((sOut x j).1 8)) (sq S ((sOut x j).1 9)) (sq S ((sOut x j).1 10)) (hq n S ((sOut x j).2 0)) (sq S ((sOut x j).1 11))) := hD.sub [0, 1, 2, 10, 11, 12, 13, 14, 15, 3, 4, 5, 6, 7, 8, 9] (by decide) rfl
        simp only [sq_at ht] at h220
        refine lv_if_eq (tgt := 309) hx hb dDecreePool_handOver_223 (by decide) (fun _ => ?_) (fun h9 => absurd (by decide) h9)
        have hW5 : (wD q cI n S P (n * S) (nI (msk (col ((sOut x j).1 13) 0) n)) ((sOut x j).1 12 0 0) ((sOut x j).1 12 0 1) ((sOut x j).1 0) (cntx P (sOut x j)) (sq S ((sOut x j).1 1)) (sq S ((sOut x j).1 2)) (upd (sq S ((sOut x j).1 3)) (a * S + t) (orb ((sq S ((sOut x j).1 3)) (a * S + t)) (nI b))) (if (sq S ((sOut x j).1 4)) (a * S + t) < (x.1 0 j 6) then upd (sq S ((sOut x j).1 4)) (a * S + t) (x.1 0 j 6) else (sq S ((sOut x j).1 4))) (if (sq S ((sOut x j).1 4)) (a * S + t) < (x.1 0 j 6) then upd (sq S ((sOut x j).1 5)) (a * S + t) (x.1 0 j 5) else (sq S ((sOut x j).1 5))) (sq S ((sOut x j).1 8)) (sq S ((sOut x j).1 9)) (sq S ((sOut x j).1 10)) (hq n S ((sOut x j).2 0)) (sq S ((sOut x j).1 11))) = (wX q cI n S P (sProm1 (sOut x j) a t (nI b) (x.1 0 j 5) (x.1 0 j 6))) := wX_prom1 (y := sOut x j) ht
        rw [hW5] at hP hD
        refine lv_iload_n hx hb dDecreePool_handOver_309 rfl (lv_at hl 7 rfl) ?_
        have hres : sHo n P x j = (nI 2, sProm1 (sOut x j) a t (nI b) (x.1 0 j 5) (x.1 0 j 6)) := by rw [sHo_u iB iA iT h97, k126_2, sTake_2, if_pos h220.1, hpo, if_neg h220.2]; try rfl
        exact W.iret (v := x.1 0 j 0) hx hb hr (fun t9 ht9 hW9 => ⟨⟨x.1 0 j 0, (wX q cI n S P (sProm1 (sOut x j) a t (nI b) (x.1 0 j 5) (x.1 0 j 6))), rfl, ⟨by rw [hres]; exact k126_2, by rw [hres]⟩, by rw [ht9]; exact hP, va_K.moved hW9.alike hK, hD⟩, hS.F ht9⟩) hS.2.2 dDecreePool_handOver_310
      · have hP : va_P D vwCl (wX q cI n S P (sOut x j)) H := hP.sub [0, 1, 2, 10, 11, 12, 13, 14, 15, 3, 4, 5, 6, 7, 8, 9] rfl
        have hD : va_D A (wX q cI n S P (sOut x j)) := hD.sub [0, 1, 2, 10, 11, 12, 13, 14, 15, 3, 4, 5, 6, 7, 8, 9] (by decide) rfl
        simp only [sq_at ht] at h220
        refine lv_if_eq (tgt := 309) hx hb dDecreePool_handOver_223 (by decide) (fun _ => ?_) (fun h9 => absurd (by decide) h9)
        refine lv_iload_n hx hb dDecreePool_handOver_309 rfl (lv_at hl 7 rfl) ?_
        have hres : sHo n P x j = (nI 2, sOut x j) := by rw [sHo_u iB iA iT h97, k126_2, sTake_2, if_neg h220]; try rfl
        exact W.iret (v := x.1 0 j 0) hx hb hr (fun t9 ht9 hW9 => ⟨⟨x.1 0 j 0, (wX q cI n S P (sOut x j)), rfl, ⟨by rw [hres]; exact k126_2, by rw [hres]⟩, by rw [ht9]; exact hP, va_K.moved hW9.alike hK, hD⟩, hS.F ht9⟩) hS.2.2 dDecreePool_handOver_310
    by_cases k126_3 : x.1 0 j 0 = nI 3
    · refine lv_topi (nm_r (k126_3) ?_)
      refine lv_tableIn (tgt := 249) hx hb dDecreePool_handOver_126 (by decide) (by decide) rfl (by decide) ?_
      refine lv_aload_n hx hb dDecreePool_handOver_249 rfl (lv_at hl 8 rfl) ?_
      refine va_get (D := D) (ci := 0) (v := .ref (q 9)) (C := RDecreePool) (T := TDecreePool) (N := 9) hx hb hts (fun w h => mc (uDecreePool_in w h)) hown hK hP 0 rfl rfl 4 (by decide) (hts _ (mc wd109)) (fun _ h9 => h9) rfl dDecreePool_handOver_250 ?_
      refine lv_iload hx hb dDecreePool_handOver_253 (lv_at hl 0 rfl) ?_
      refine lv_iload hx hb dDecreePool_handOver_255 (lv_at hl 3 rfl) ?_
      refine lv_iload hx hb dDecreePool_handOver_257 (lv_at hl 2 rfl) ?_
      have hPc := hP.sub (ws' := (wAc q cI n S (n * S) (sq S ((sOut x j).1 8)) (sq S ((sOut x j).1 9)) (sq S ((sOut x j).1 10)))) [9, 10, 11, 12] rfl
      have hDc := hD.sub (ws' := (wAc q cI n S (n * S) (sq S ((sOut x j).1 8)) (sq S ((sOut x j).1 9)) (sq S ((sOut x j).1 10)))) [9, 10, 11, 12] (by decide) rfl
      refine kx_i (va_runV (As := [.int (nI (a * S + t)), .int (x.1 0 j 4), .int (x.1 0 j 5)]) (rest := []) ⟨hx, hb, hml, hown, hts⟩ ((c_accept l D cI cZ q n S (n * S) (sq S ((sOut x j).1 8)) (sq S ((sOut x j).1 9)) (sq S ((sOut x j).1 10)) (a * S + t) (x.1 0 j 4) (x.1 0 j 5) (L20 hn5 hS4) (seat_lt ha ht)) H.size) (cwV 3 hts (gV wd256 wd257 wd258 wd5 wd259) rfl rfl rfl (by decide +kernel) ⟨Nat.le_of_ble_eq_true rfl, Nat.le_of_ble_eq_true rfl⟩) ⟨fb_PW, va_recv (q0 := 0) (ci := 3) hK hPc rfl rfl, pre_PW hK hPc hDc hZ⟩ rfl rfl hl.1 rfl (lv_room (Nat.le_of_ble_eq_true rfl)) dDecreePool_handOver_259 ⟨Nat.zero_le _, Nat.zero_le _⟩) hP hD hS hA [9, 10, 11, 12] [0, 1, 2, 3, 4, 5, 6, 7, 8, 13, 14, 15] rfl rfl (by decide) (by decide) (fun r w1 H locs hw hP hD hS => ?_)
      rcases hw with ⟨rfl, h259, rfl⟩ | ⟨rfl, h259, rfl⟩
      · have hP : va_P D vwCl (wD q cI n S P (n * S) (nI (msk (col ((sOut x j).1 13) 0) n)) ((sOut x j).1 12 0 0) ((sOut x j).1 12 0 1) ((sOut x j).1 0) (cntx P (sOut x j)) (sq S ((sOut x j).1 1)) (sq S ((sOut x j).1 2)) (sq S ((sOut x j).1 3)) (sq S ((sOut x j).1 4)) (sq S ((sOut x j).1 5)) (upd (sq S ((sOut x j).1 8)) (a * S + t) (x.1 0 j 4)) (upd (sq S ((sOut x j).1 9)) (a * S + t) (x.1 0 j 4)) (upd (sq S ((sOut x j).1 10)) (a * S + t) (x.1 0 j 5)) (hq n S ((sOut x j).2 0)) (sq S ((sOut x j).1 11))) H := hP.sub [0, 1, 2, 3, 4, 5, 6, 7, 8, 12, 13, 14, 15, 9, 10, 11] rfl
        have hD : va_D A (wD q cI n S P (n * S) (nI (msk (col ((sOut x j).1 13) 0) n)) ((sOut x j).1 12 0 0) ((sOut x j).1 12 0 1) ((sOut x j).1 0) (cntx P (sOut x j)) (sq S ((sOut x j).1 1)) (sq S ((sOut x j).1 2)) (sq S ((sOut x j).1 3)) (sq S ((sOut x j).1 4)) (sq S ((sOut x j).1 5)) (upd (sq S ((sOut x j).1 8)) (a * S + t) (x.1 0 j 4)) (upd (sq S ((sOut x j).1 9)) (a * S + t) (x.1 0 j 4)) (upd (sq S ((sOut x j).1 10)) (a * S + t) (x.1 0 j 5)) (hq n S ((sOut x j).2 0)) (sq S ((sOut x j).1 11))) := hD.sub [0, 1, 2, 3, 4, 5, 6, 7, 8, 12, 13, 14, 15, 9, 10, 11] (by decide) rfl
        simp only [sq_at ht] at h259
        refine lv_if_eq (tgt := 309) hx hb dDecreePool_handOver_262 (by decide) (fun h9 => absurd h9 (by decide)) (fun _ => ?_)
        have hW6 : (wD q cI n S P (n * S) (nI (msk (col ((sOut x j).1 13) 0) n)) ((sOut x j).1 12 0 0) ((sOut x j).1 12 0 1) ((sOut x j).1 0) (cntx P (sOut x j)) (sq S ((sOut x j).1 1)) (sq S ((sOut x j).1 2)) (sq S ((sOut x j).1 3)) (sq S ((sOut x j).1 4)) (sq S ((sOut x j).1 5)) (upd (sq S ((sOut x j).1 8)) (a * S + t) (x.1 0 j 4)) (upd (sq S ((sOut x j).1 9)) (a * S + t) (x.1 0 j 4)) (upd (sq S ((sOut x j).1 10)) (a * S + t) (x.1 0 j 5)) (hq n S ((sOut x j).2 0)) (sq S ((sOut x j).1 11))) = (wX q cI n S P (sAcc (sOut x j) a t (x.1 0 j 4) (x.1 0 j 5))) := by rw [sq_up ht, sq_up ht, sq_up ht]; try rfl
        rw [hW6] at hP hD
        refine lv_aload_n hx hb dDecreePool_handOver_265 rfl (lv_at hl 8 rfl) ?_
        refine lv_iconst (v := nI 4) hx hb dDecreePool_handOver_266 (by decide) ?_
        refine lv_iload hx hb dDecreePool_handOver_267 (lv_at hl 5 rfl) ?_
        refine lv_iload hx hb dDecreePool_handOver_269 (lv_at hl 4 rfl) ?_
        refine lv_iload hx hb dDecreePool_handOver_271 (lv_at hl 3 rfl) ?_
        refine lv_iload hx hb dDecreePool_handOver_273 (lv_at hl 2 rfl) ?_
        have hPc := hP.sub (ws' := (wX q cI n S P (sAcc (sOut x j) a t (x.1 0 j 4) (x.1 0 j 5)))) [0, 1, 2, 3, 4, 5, 6, 7, 8, 9, 10, 11, 12, 13, 14, 15] rfl
        have hDc := hD.sub (ws' := (wX q cI n S P (sAcc (sOut x j) a t (x.1 0 j 4) (x.1 0 j 5)))) [0, 1, 2, 3, 4, 5, 6, 7, 8, 9, 10, 11, 12, 13, 14, 15] (by decide) rfl
        refine kx_v (va_runV (As := [.int (nI 4), .int (nI a), .int (nI t), .int (x.1 0 j 4), .int (x.1 0 j 5)]) (rest := []) ⟨hx, hb, hml, hown, hts⟩ ((c_sendToAll l D cI cZ q n S P (sAcc (sOut x j) a t (x.1 0 j 4) (x.1 0 j 5)) (nI 4) (nI a) (nI t) (x.1 0 j 4) (x.1 0 j 5) (hn1) (hn5) (hS1) (hS4) (hP5) (hP64) (by decide) (by have := hroom h97 (Or.inr ⟨k126_3, h259⟩); show cntx P (put x 0 j 0 (nI 0)) + n ≤ P; omega)) H.size) (cwV 5 hts (gV wd169 wd171 sl_DecreePool_sendToAll wd1 wd172) rfl rfl rfl (by decide +kernel) ⟨Nat.le_of_ble_eq_true rfl, Nat.le_of_ble_eq_true rfl⟩) ⟨fb_PW, va_recv (q0 := 0) (ci := 0) hK hPc rfl rfl, pre_PW hK hPc hDc hZ⟩ rfl rfl hl.1 rfl (lv_room (Nat.le_of_ble_eq_true rfl)) dDecreePool_handOver_275 ⟨Nat.zero_le _, Nat.zero_le _⟩) hP hD hS hA [0, 1, 2, 3, 4, 5, 6, 7, 8, 9, 10, 11, 12, 13, 14, 15] [] rfl rfl (by decide) (by decide) (fun w1 H locs hw hP hD hS => ?_)
        obtain rfl := hw
        have hP : va_P D vwCl (wX q cI n S P (sendA P (sAcc (sOut x j) a t (x.1 0 j 4) (x.1 0 j 5)) (nI 4) (nI a) (nI t) (x.1 0 j 4) (x.1 0 j 5) n)) H := hP
        have hD : va_D A (wX q cI n S P (sendA P (sAcc (sOut x j) a t (x.1 0 j 4) (x.1 0 j 5)) (nI 4) (nI a) (nI t) (x.1 0 j 4) (x.1 0 j 5) n)) := hD
        refine lv_goto (tgt := 309) hx hb dDecreePool_handOver_278 (by decide) ?_
        refine lv_iload_n hx hb dDecreePool_handOver_309 rfl (lv_at hl 7 rfl) ?_
        have hres : sHo n P x j = (nI 3, sendA P (sAcc (sOut x j) a t (x.1 0 j 4) (x.1 0 j 5)) (nI 4) (nI a) (nI t) (x.1 0 j 4) (x.1 0 j 5) n) := by rw [sHo_u iB iA iT h97, k126_3, sTake_3, if_pos h259]; try rfl
        exact W.iret (v := x.1 0 j 0) hx hb hr (fun t9 ht9 hW9 => ⟨⟨x.1 0 j 0, (wX q cI n S P (sendA P (sAcc (sOut x j) a t (x.1 0 j 4) (x.1 0 j 5)) (nI 4) (nI a) (nI t) (x.1 0 j 4) (x.1 0 j 5) n)), rfl, ⟨by rw [hres]; exact k126_3, by rw [hres]⟩, by rw [ht9]; exact hP, va_K.moved hW9.alike hK, hD⟩, hS.F ht9⟩) hS.2.2 dDecreePool_handOver_310
      · have hP : va_P D vwCl (wX q cI n S P (sOut x j)) H := hP.sub [0, 1, 2, 3, 4, 5, 6, 7, 8, 12, 13, 14, 15, 9, 10, 11] rfl
        have hD : va_D A (wX q cI n S P (sOut x j)) := hD.sub [0, 1, 2, 3, 4, 5, 6, 7, 8, 12, 13, 14, 15, 9, 10, 11] (by decide) rfl
        simp only [sq_at ht] at h259
        refine lv_if_eq (tgt := 309) hx hb dDecreePool_handOver_262 (by decide) (fun _ => ?_) (fun h9 => absurd (by decide) h9)
        refine lv_iload_n hx hb dDecreePool_handOver_309 rfl (lv_at hl 7 rfl) ?_
        have hres : sHo n P x j = (nI 3, sOut x j) := by rw [sHo_u iB iA iT h97, k126_3, sTake_3, if_neg h259]; try rfl
        exact W.iret (v := x.1 0 j 0) hx hb hr (fun t9 ht9 hW9 => ⟨⟨x.1 0 j 0, (wX q cI n S P (sOut x j)), rfl, ⟨by rw [hres]; exact k126_3, by rw [hres]⟩, by rw [ht9]; exact hP, va_K.moved hW9.alike hK, hD⟩, hS.F ht9⟩) hS.2.2 dDecreePool_handOver_310
    by_cases k126_4 : x.1 0 j 0 = nI 4
    · refine lv_topi (nm_r (k126_4) ?_)
      refine lv_tableIn (tgt := 281) hx hb dDecreePool_handOver_126 (by decide) (by decide) rfl (by decide) ?_
      refine lv_aload_n hx hb dDecreePool_handOver_281 rfl (lv_at hl 8 rfl) ?_
      refine va_get (D := D) (ci := 0) (v := .ref (q 13)) (C := RDecreePool) (T := TDecreePool) (N := 9) hx hb hts (fun w h => mc (uDecreePool_in w h)) hown hK hP 0 rfl rfl 5 (by decide) (hts _ (mc wd110)) (fun _ h9 => h9) rfl dDecreePool_handOver_282 ?_
      refine lv_iload hx hb dDecreePool_handOver_285 (lv_at hl 0 rfl) ?_
      refine lv_iload_n hx hb dDecreePool_handOver_287 rfl (lv_at hl 6 rfl) ?_
      refine lv_iload hx hb dDecreePool_handOver_288 (lv_at hl 3 rfl) ?_
      refine lv_iload hx hb dDecreePool_handOver_290 (lv_at hl 2 rfl) ?_
      have hPc := hP.sub (ws' := (wLe q cI n (n * S) (hq n S ((sOut x j).2 0)) (sq S ((sOut x j).1 11)))) [13, 14, 15] rfl
      have hDc := hD.sub (ws' := (wLe q cI n (n * S) (hq n S ((sOut x j).2 0)) (sq S ((sOut x j).1 11)))) [13, 14, 15] (by decide) rfl
      refine kx_v (va_runV (As := [.int (nI (a * S + t)), .int (nI b), .int (x.1 0 j 4), .int (x.1 0 j 5)]) (rest := []) ⟨hx, hb, hml, hown, hts⟩ ((c_hear l D cI cZ q n (n * S) (hq n S ((sOut x j).2 0)) (sq S ((sOut x j).1 11)) (a * S + t) b (x.1 0 j 4) (x.1 0 j 5) (L20 hn5 hS4) (hn5) (seat_lt ha ht) (hbn)) H.size) (cwV 4 hts (gV wd261 wd262 wd263 wd6 wd264) rfl rfl rfl (by decide +kernel) ⟨Nat.le_of_ble_eq_true rfl, Nat.le_of_ble_eq_true rfl⟩) ⟨fb_PW, va_recv (q0 := 0) (ci := 4) hK hPc rfl rfl, pre_PW hK hPc hDc hZ⟩ rfl rfl hl.1 rfl (lv_room (Nat.le_of_ble_eq_true rfl)) dDecreePool_handOver_292 ⟨Nat.zero_le _, Nat.zero_le _⟩) hP hD hS hA [13, 14, 15] [0, 1, 2, 3, 4, 5, 6, 7, 8, 9, 10, 11, 12] rfl rfl (by decide) (by decide) (fun w1 H locs hw hP hD hS => ?_)
      rcases hw with ⟨h292, rfl⟩ | ⟨h292, rfl⟩ | ⟨h292, rfl⟩
      · have hP : va_P D vwCl (wX q cI n S P (sOut x j)) H := hP
        have hD : va_D A (wX q cI n S P (sOut x j)) := hD
        rw [hq_at hbn ht] at h292
        refine lv_goto (tgt := 309) hx hb dDecreePool_handOver_295 (by decide) ?_
        refine lv_iload_n hx hb dDecreePool_handOver_309 rfl (lv_at hl 7 rfl) ?_
        have hres : sHo n P x j = (nI 4, sOut x j) := by rw [sHo_u iB iA iT h97, k126_4, sTake_4, sHear, if_neg h292]; try rfl
        exact W.iret (v := x.1 0 j 0) hx hb hr (fun t9 ht9 hW9 => ⟨⟨x.1 0 j 0, (wX q cI n S P (sOut x j)), rfl, ⟨by rw [hres]; exact k126_4, by rw [hres]⟩, by rw [ht9]; exact hP, va_K.moved hW9.alike hK, hD⟩, hS.F ht9⟩) hS.2.2 dDecreePool_handOver_310
      · have hP : va_P D vwCl (wD q cI n S P (n * S) (nI (msk (col ((sOut x j).1 13) 0) n)) ((sOut x j).1 12 0 0) ((sOut x j).1 12 0 1) ((sOut x j).1 0) (cntx P (sOut x j)) (sq S ((sOut x j).1 1)) (sq S ((sOut x j).1 2)) (sq S ((sOut x j).1 3)) (sq S ((sOut x j).1 4)) (sq S ((sOut x j).1 5)) (sq S ((sOut x j).1 8)) (sq S ((sOut x j).1 9)) (sq S ((sOut x j).1 10)) (upd (hq n S ((sOut x j).2 0)) ((a * S + t) * n + b) (x.1 0 j 4)) (sq S ((sOut x j).1 11))) H := hP
        have hD : va_D A (wD q cI n S P (n * S) (nI (msk (col ((sOut x j).1 13) 0) n)) ((sOut x j).1 12 0 0) ((sOut x j).1 12 0 1) ((sOut x j).1 0) (cntx P (sOut x j)) (sq S ((sOut x j).1 1)) (sq S ((sOut x j).1 2)) (sq S ((sOut x j).1 3)) (sq S ((sOut x j).1 4)) (sq S ((sOut x j).1 5)) (sq S ((sOut x j).1 8)) (sq S ((sOut x j).1 9)) (sq S ((sOut x j).1 10)) (upd (hq n S ((sOut x j).2 0)) ((a * S + t) * n + b) (x.1 0 j 4)) (sq S ((sOut x j).1 11))) := hD
        rw [hear_cnt hbn ht, hq_at hbn ht] at h292
        refine lv_goto (tgt := 309) hx hb dDecreePool_handOver_295 (by decide) ?_
        have hW7 : (wD q cI n S P (n * S) (nI (msk (col ((sOut x j).1 13) 0) n)) ((sOut x j).1 12 0 0) ((sOut x j).1 12 0 1) ((sOut x j).1 0) (cntx P (sOut x j)) (sq S ((sOut x j).1 1)) (sq S ((sOut x j).1 2)) (sq S ((sOut x j).1 3)) (sq S ((sOut x j).1 4)) (sq S ((sOut x j).1 5)) (sq S ((sOut x j).1 8)) (sq S ((sOut x j).1 9)) (sq S ((sOut x j).1 10)) (upd (hq n S ((sOut x j).2 0)) ((a * S + t) * n + b) (x.1 0 j 4)) (sq S ((sOut x j).1 11))) = (wX q cI n S P (pth (pth (sOut x j) 0 a t b (x.1 0 j 4)) 1 a t b (x.1 0 j 5))) := by rw [hq_up hbn ht]; try rfl
        rw [hW7] at hP hD
        refine lv_iload_n hx hb dDecreePool_handOver_309 rfl (lv_at hl 7 rfl) ?_
        have hres : sHo n P x j = (nI 4, pth (pth (sOut x j) 0 a t b (x.1 0 j 4)) 1 a t b (x.1 0 j 5)) := by rw [sHo_u iB iA iT h97, k126_4, sTake_4, sHear, if_pos h292.1, if_neg h292.2]; try rfl
        exact W.iret (v := x.1 0 j 0) hx hb hr (fun t9 ht9 hW9 => ⟨⟨x.1 0 j 0, (wX q cI n S P (pth (pth (sOut x j) 0 a t b (x.1 0 j 4)) 1 a t b (x.1 0 j 5))), rfl, ⟨by rw [hres]; exact k126_4, by rw [hres]⟩, by rw [ht9]; exact hP, va_K.moved hW9.alike hK, hD⟩, hS.F ht9⟩) hS.2.2 dDecreePool_handOver_310
      · have hP : va_P D vwCl (wD q cI n S P (n * S) (nI (msk (col ((sOut x j).1 13) 0) n)) ((sOut x j).1 12 0 0) ((sOut x j).1 12 0 1) ((sOut x j).1 0) (cntx P (sOut x j)) (sq S ((sOut x j).1 1)) (sq S ((sOut x j).1 2)) (sq S ((sOut x j).1 3)) (sq S ((sOut x j).1 4)) (sq S ((sOut x j).1 5)) (sq S ((sOut x j).1 8)) (sq S ((sOut x j).1 9)) (sq S ((sOut x j).1 10)) (upd (hq n S ((sOut x j).2 0)) ((a * S + t) * n + b) (x.1 0 j 4)) (if (sq S ((sOut x j).1 11)) (a * S + t) = 0 then upd (sq S ((sOut x j).1 11)) (a * S + t) (x.1 0 j 5) else (sq S ((sOut x j).1 11)))) H := hP
        have hD : va_D A (wD q cI n S P (n * S) (nI (msk (col ((sOut x j).1 13) 0) n)) ((sOut x j).1 12 0 0) ((sOut x j).1 12 0 1) ((sOut x j).1 0) (cntx P (sOut x j)) (sq S ((sOut x j).1 1)) (sq S ((sOut x j).1 2)) (sq S ((sOut x j).1 3)) (sq S ((sOut x j).1 4)) (sq S ((sOut x j).1 5)) (sq S ((sOut x j).1 8)) (sq S ((sOut x j).1 9)) (sq S ((sOut x j).1 10)) (upd (hq n S ((sOut x j).2 0)) ((a * S + t) * n + b) (x.1 0 j 4)) (if (sq S ((sOut x j).1 11)) (a * S + t) = 0 then upd (sq S ((sOut x j).1 11)) (a * S + t) (x.1 0 j 5) else (sq S ((sOut x j).1 11)))) := hD
        rw [hear_cnt hbn ht, hq_at hbn ht] at h292
        refine lv_goto (tgt := 309) hx hb dDecreePool_handOver_295 (by decide) ?_
        have hW8 : (wD q cI n S P (n * S) (nI (msk (col ((sOut x j).1 13) 0) n)) ((sOut x j).1 12 0 0) ((sOut x j).1 12 0 1) ((sOut x j).1 0) (cntx P (sOut x j)) (sq S ((sOut x j).1 1)) (sq S ((sOut x j).1 2)) (sq S ((sOut x j).1 3)) (sq S ((sOut x j).1 4)) (sq S ((sOut x j).1 5)) (sq S ((sOut x j).1 8)) (sq S ((sOut x j).1 9)) (sq S ((sOut x j).1 10)) (upd (hq n S ((sOut x j).2 0)) ((a * S + t) * n + b) (x.1 0 j 4)) (if (sq S ((sOut x j).1 11)) (a * S + t) = 0 then upd (sq S ((sOut x j).1 11)) (a * S + t) (x.1 0 j 5) else (sq S ((sOut x j).1 11)))) = (wX q cI n S P (sLearn (pth (pth (sOut x j) 0 a t b (x.1 0 j 4)) 1 a t b (x.1 0 j 5)) a t (x.1 0 j 5))) := by rw [hq_up hbn ht]; exact wX_learn (y := pth (pth (sOut x j) 0 a t b (x.1 0 j 4)) 1 a t b (x.1 0 j 5)) ht
        rw [hW8] at hP hD
        refine lv_iload_n hx hb dDecreePool_handOver_309 rfl (lv_at hl 7 rfl) ?_
        have hres : sHo n P x j = (nI 4, sLearn (pth (pth (sOut x j) 0 a t b (x.1 0 j 4)) 1 a t b (x.1 0 j 5)) a t (x.1 0 j 5)) := by rw [sHo_u iB iA iT h97, k126_4, sTake_4, sHear, if_pos h292.1, if_pos h292.2]; try rfl
        exact W.iret (v := x.1 0 j 0) hx hb hr (fun t9 ht9 hW9 => ⟨⟨x.1 0 j 0, (wX q cI n S P (sLearn (pth (pth (sOut x j) 0 a t b (x.1 0 j 4)) 1 a t b (x.1 0 j 5)) a t (x.1 0 j 5))), rfl, ⟨by rw [hres]; exact k126_4, by rw [hres]⟩, by rw [ht9]; exact hP, va_K.moved hW9.alike hK, hD⟩, hS.F ht9⟩) hS.2.2 dDecreePool_handOver_310
    refine lv_tableOut (tgt := 298) hx hb dDecreePool_handOver_126 (tb_out 1 4 (by intro j h1 h2; rcases (show j = 1 ∨ j = 2 ∨ j = 3 ∨ j = 4 by omega) with rfl | rfl | rfl | rfl <;> assumption)) (by decide) ?_
    refine lv_aload_n hx hb dDecreePool_handOver_298 rfl (lv_at hl 8 rfl) ?_
    refine va_get (D := D) (ci := 0) (v := .ref (q 13)) (C := RDecreePool) (T := TDecreePool) (N := 9) hx hb hts (fun w h => mc (uDecreePool_in w h)) hown hK hP 0 rfl rfl 5 (by decide) (hts _ (mc wd110)) (fun _ h9 => h9) rfl dDecreePool_handOver_299 ?_
    refine lv_iload hx hb dDecreePool_handOver_302 (lv_at hl 0 rfl) ?_
    refine lv_iload hx hb dDecreePool_handOver_304 (lv_at hl 2 rfl) ?_
    have hPc := hP.sub (ws' := (wLe q cI n (n * S) (hq n S ((sOut x j).2 0)) (sq S ((sOut x j).1 11)))) [13, 14, 15] rfl
    have hDc := hD.sub (ws' := (wLe q cI n (n * S) (hq n S ((sOut x j).2 0)) (sq S ((sOut x j).1 11)))) [13, 14, 15] (by decide) rfl
    refine kx_v (va_runV (As := [.int (nI (a * S + t)), .int (x.1 0 j 5)]) (rest := []) ⟨hx, hb, hml, hown, hts⟩ ((c_learn l D cI cZ q n (n * S) (hq n S ((sOut x j).2 0)) (sq S ((sOut x j).1 11)) (a * S + t) (x.1 0 j 5) (L20 hn5 hS4) (seat_lt ha ht)) H.size) (cwV 2 hts (gV wd278 wd275 wd276 wd6 wd277) rfl rfl rfl (by decide +kernel) ⟨Nat.le_of_ble_eq_true rfl, Nat.le_of_ble_eq_true rfl⟩) ⟨fb_PW, va_recv (q0 := 0) (ci := 4) hK hPc rfl rfl, pre_PW hK hPc hDc hZ⟩ rfl rfl hl.1 rfl (lv_room (Nat.le_of_ble_eq_true rfl)) dDecreePool_handOver_306 ⟨Nat.zero_le _, Nat.zero_le _⟩) hP hD hS hA [13, 14, 15] [0, 1, 2, 3, 4, 5, 6, 7, 8, 9, 10, 11, 12] rfl rfl (by decide) (by decide) (fun w1 H locs hw hP hD hS => ?_)
    obtain rfl := hw
    have hP : va_P D vwCl (wD q cI n S P (n * S) (nI (msk (col ((sOut x j).1 13) 0) n)) ((sOut x j).1 12 0 0) ((sOut x j).1 12 0 1) ((sOut x j).1 0) (cntx P (sOut x j)) (sq S ((sOut x j).1 1)) (sq S ((sOut x j).1 2)) (sq S ((sOut x j).1 3)) (sq S ((sOut x j).1 4)) (sq S ((sOut x j).1 5)) (sq S ((sOut x j).1 8)) (sq S ((sOut x j).1 9)) (sq S ((sOut x j).1 10)) (hq n S ((sOut x j).2 0)) (if (sq S ((sOut x j).1 11)) (a * S + t) = 0 then upd (sq S ((sOut x j).1 11)) (a * S + t) (x.1 0 j 5) else (sq S ((sOut x j).1 11)))) H := hP
    have hD : va_D A (wD q cI n S P (n * S) (nI (msk (col ((sOut x j).1 13) 0) n)) ((sOut x j).1 12 0 0) ((sOut x j).1 12 0 1) ((sOut x j).1 0) (cntx P (sOut x j)) (sq S ((sOut x j).1 1)) (sq S ((sOut x j).1 2)) (sq S ((sOut x j).1 3)) (sq S ((sOut x j).1 4)) (sq S ((sOut x j).1 5)) (sq S ((sOut x j).1 8)) (sq S ((sOut x j).1 9)) (sq S ((sOut x j).1 10)) (hq n S ((sOut x j).2 0)) (if (sq S ((sOut x j).1 11)) (a * S + t) = 0 then upd (sq S ((sOut x j).1 11)) (a * S + t) (x.1 0 j 5) else (sq S ((sOut x j).1 11)))) := hD
    have hW9 : (wD q cI n S P (n * S) (nI (msk (col ((sOut x j).1 13) 0) n)) ((sOut x j).1 12 0 0) ((sOut x j).1 12 0 1) ((sOut x j).1 0) (cntx P (sOut x j)) (sq S ((sOut x j).1 1)) (sq S ((sOut x j).1 2)) (sq S ((sOut x j).1 3)) (sq S ((sOut x j).1 4)) (sq S ((sOut x j).1 5)) (sq S ((sOut x j).1 8)) (sq S ((sOut x j).1 9)) (sq S ((sOut x j).1 10)) (hq n S ((sOut x j).2 0)) (if (sq S ((sOut x j).1 11)) (a * S + t) = 0 then upd (sq S ((sOut x j).1 11)) (a * S + t) (x.1 0 j 5) else (sq S ((sOut x j).1 11)))) = (wX q cI n S P (sLearn (sOut x j) a t (x.1 0 j 5))) := wX_learn (y := sOut x j) ht
    rw [hW9] at hP hD
    refine lv_iload_n hx hb dDecreePool_handOver_309 rfl (lv_at hl 7 rfl) ?_
    have hres : sHo n P x j = (x.1 0 j 0, sLearn (sOut x j) a t (x.1 0 j 5)) := by rw [sHo_u iB iA iT h97, sTake_5 k126_1 k126_2 k126_3 k126_4]; try rfl
    exact W.iret (v := x.1 0 j 0) hx hb hr (fun t9 ht9 hW9 => ⟨⟨x.1 0 j 0, (wX q cI n S P (sLearn (sOut x j) a t (x.1 0 j 5))), rfl, ⟨by rw [hres], by rw [hres]⟩, by rw [ht9]; exact hP, va_K.moved hW9.alike hK, hD⟩, hS.F ht9⟩) hS.2.2 dDecreePool_handOver_310
  · have hP : va_P D vwCl (wX q cI n S P (sOut x j)) H := hP
    have hD : va_D A (wX q cI n S P (sOut x j)) := hD
    have h97 : ¬ x.1 13 a 0 = 0 := h97
    refine lv_if_ne (tgt := 115) hx hb dDecreePool_handOver_100 (by decide) (fun h9 => absurd (by decide) h9) (fun _ => ?_)
    refine lv_aload_n hx hb dDecreePool_handOver_103 rfl (lv_at hl 7 rfl) ?_
    refine lv_dup hx hb dDecreePool_handOver_104 rfl ?_
    refine va_get (D := D) (ci := 0) (v := .int ((sOut x j).1 12 0 1)) (C := RDecreePool) (T := TDecreePool) (N := 9) hx hb hts (fun w h => mc (uDecreePool_in w h)) hown hK hP 0 rfl rfl 8 (by decide) (hts _ (mc wd113)) (fun _ h9 => h9) rfl dDecreePool_handOver_105 ?_
    refine lv_iconst (v := nI 1) hx hb dDecreePool_handOver_108 (by decide) ?_
    refine lv_iadd hx hb dDecreePool_handOver_109 ?_
    refine va_put (D := D) (ci := 0) (v := .int (((sOut x j).1 12 0 1) + (nI 1))) (ty := .int) (C := RDecreePool) (T := TDecreePool) (N := 9) hx hb hts (fun w h => mc (uDecreePool_in w h)) tyDecreePool tyDecreePool_ok nmDecreePool hown hK hP hD hS 0 rfl rfl 8 (by decide) (hts _ (mc wd113)) (fun _ h9 => h9) rfl (by decide +kernel) rfl rfl (Nat.le_of_ble_eq_true rfl) dDecreePool_handOver_110 (fun H locs hP hD hS => ?_)
    have hP : va_P D vwCl (wX q cI n S P (sLost (sOut x j))) H := hP
    have hD : va_D A (wX q cI n S P (sLost (sOut x j))) := hD
    refine lv_iconst (v := nI 0) hx hb dDecreePool_handOver_113 (by decide) ?_
    exact W.iret (v := nI 0) hx hb hr (fun t9 ht9 hW9 => ⟨⟨nI 0, (wX q cI n S P (sLost (sOut x j))), rfl, ⟨by rw [sHo_d iA h97], by rw [sHo_d iA h97]⟩, by rw [ht9]; exact hP, va_K.moved hW9.alike hK, hD⟩, hS.F ht9⟩) hS.2.2 dDecreePool_handOver_114
