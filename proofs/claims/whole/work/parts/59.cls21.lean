/-! THE LAW: a call of each method -/
set_option maxHeartbeats 4000000 in
set_option maxRecDepth 100000 in
theorem law_make {p : Program} {l : Launch} {e : Env} {s : State} {m : MethodId} {below : List Frame} {meth : Method} {c : Code} {b L : Nat} {xs : Nat → Int32} {D : va_G} {G : gG} {mi : Nat} (hLC : LC p l s m meth c b L xs D G mi) {k : Nat} (hk : 4 * k + 4 ≤ L) {ad : gAd} {N : gN} {C M : gT} {o : Nat → Int64} {H : Heap} {locs : List Loc} {ls : Array Slot} (hW : gW D (lwA s) ad (Wd G ad N C M o) H) (hR : Rel k N C M) (hS : va_S (lwA s) s.heap H locs) (hl : lv_has ls 9 [(4, .int (nI (4 * k))), (0, .ref b), (1, .ref (ad 0 0)), (2, .ref (ad 0 1)), (3, .ref (ad 0 2))]) (nx : ∀ (ad2 : gAd) (N2 : gN) (C2 M2 : gT) (o2 : Nat → Int64) (H2 : Heap) (locs2 : List Loc) (ls2 : Array Slot), gW D (lwA s) ad2 (Wd G ad2 N2 C2 M2 o2) H2 → Rel (k + 1) N2 C2 M2 → (∀ i, ad2 0 i = ad 0 i) → va_S (lwA s) s.heap H2 locs2 → lv_has ls2 9 [(4, .int (nI (4 * k))), (0, .ref b), (1, .ref (ad 0 0)), (2, .ref (ad 0 1)), (3, .ref (ad 0 2))] → W p l e room_1 s m #[Value.ref b] below meth c H2 locs2 (22 + (k + 1) * 1173) (397 + (k + 1) * 14243) (lw_Z below #[Value.ref b] s) (F0 m 1406 ls2 [])) : W p l e room_1 s m #[Value.ref b] below meth c H locs (22 + k * 1173) (397 + k * 14243) (lw_Z below #[Value.ref b] s) (F0 m 136 ls []) := by
  obtain ⟨hAt, hl0, hK, hE, hL, hNe, hNc, hL2⟩ := hLC
  obtain ⟨hx, hb, hrt, hml, hown, hts0, hX, hbl, hlocks, hgv⟩ := hAt
  have hown : s.vm.findClass RL = some m.cls := hown
  have hts : ∀ w ∈ wsL_law, w.before #[Value.ref b] s = true := fun w h => hts0 w (wsL_law_in w h)
  have C0 : CallFix p m c cL_law 9 s #[Value.ref b] wsL_law RL := ⟨hx, hb, hml, hown, hts⟩
  have hbA : ¬ lwA s b := Nat.not_le.mpr hbl
  have hA : ∀ q, H.size ≤ q → lwA s q := fun q h => Nat.le_trans hS.1 h
  have hk5 : k ≤ 511 := by omega
  obtain ⟨v, hv_v⟩ : ∃ y : Int32, y = (xs (nI (4 * k + 1)).toNatClampNeg) := ⟨_, rfl⟩
  obtain ⟨w, hv_w⟩ : ∃ y : Int32, y = (xs (nI (4 * k + 2)).toNatClampNeg) := ⟨_, rfl⟩
  obtain ⟨x, hv_x⟩ : ∃ y : Int32, y = (xs (nI (4 * k + 3)).toNatClampNeg) := ⟨_, rfl⟩
  refine lv_aload_n hx hb dL_law_136 rfl (lv_at hl 2 rfl) ?_
  refine lv_aload_n hx hb dL_law_137 rfl (lv_at hl 1 rfl) ?_
  refine lv_iload hx hb dL_law_138 (lv_at hl 0 rfl) ?_
  refine lv_iconst (v := 1) hx hb dL_law_140 (by decide) ?_
  refine lv_iadd hx hb dL_law_141 ?_
  rw [show nI (4 * k) + 1 = nI (4 * k + 1) from nI_add _ _]
  refine va_sld hx hb hX hbl hbA hS (vp_in_nI (show 4 * k + 1 < L by omega) (by omega)) dL_law_142 ?_
  rw [← hv_v]
  refine lv_aload_n hx hb dL_law_143 rfl (lv_at hl 1 rfl) ?_
  refine lv_iload hx hb dL_law_144 (lv_at hl 0 rfl) ?_
  refine lv_iconst (v := 2) hx hb dL_law_146 (by decide) ?_
  refine lv_iadd hx hb dL_law_147 ?_
  rw [show nI (4 * k) + 2 = nI (4 * k + 2) from nI_add _ _]
  refine va_sld hx hb hX hbl hbA hS (vp_in_nI (show 4 * k + 2 < L by omega) (by omega)) dL_law_148 ?_
  rw [← hv_w]
  refine lv_aload_n hx hb dL_law_149 rfl (lv_at hl 1 rfl) ?_
  refine lv_iload hx hb dL_law_150 (lv_at hl 0 rfl) ?_
  refine lv_iconst (v := 3) hx hb dL_law_152 (by decide) ?_
  refine lv_iadd hx hb dL_law_153 ?_
  rw [show nI (4 * k) + 3 = nI (4 * k + 3) from nI_add _ _]
  refine va_sld hx hb hX hbl hbA hS (vp_in_nI (show 4 * k + 3 < L by omega) (by omega)) dL_law_154 ?_
  rw [← hv_x]
  refine lv_aload_n hx hb dL_law_155 rfl (lv_at hl 4 rfl) ?_
  have hM9 := c_L_make l D G (lwA s) ad N C M o H hW hl0 hR.ic hA hR.ir mi v w x
  refine g_ZSi (As := [.ref (ad 0 0), .int v, .int w, .int x, .ref (ad 0 2)]) (rest := []) (post := fun (r : Int32) (u : gAd) => okW oAS (f_X4_make C N v w x) r ∧ ∀ i, u 0 i = ad 0 i) (B := fun u H => gW D (lwA s) u (oW (f_X4_make C N v w x) (fun a => Wd G u (n_X4_make C N v w x) (s_X4_make C N v w x) M (oL o a.toInt64)) (Wd G u N C M o)) H) (mc := 2) (ms := 39) C0 hM9 (vx_cwSW 5 hts gL_law_L_make rfl rfl rfl (by decide +kernel) ⟨Nat.le_of_ble_eq_true rfl, Nat.le_of_ble_eq_true rfl⟩) hK hE hL hNe hNc rfl rfl hl rfl (Nat.le_of_ble_eq_true rfl) dL_law_156 ⟨(by show 22 + k * 1173 + 2 ≤ 601024; omega), (by show 397 + k * 14243 + 39 ≤ 7293034; omega)⟩ hS (fun k9 u H1 locs1 hok hW hz hS => ?_)
  obtain ⟨hok, hu⟩ := hok
  have hq := q_make hR v w x
  obtain ⟨N1, C1, o1, hW, hR1, hth, hov⟩ := st_W (val := fun a => a.toInt64) hd_AS hok hq.1 hW (hq.2.mono (Nat.le_succ k)) (fun E hE9 => (er_make hE9).1)
  refine lv_istore (lv' := [(5, .int k9), (4, .int (nI (4 * k))), (0, .ref b), (1, .ref (ad 0 0)), (2, .ref (ad 0 1)), (3, .ref (ad 0 2))]) hx hb dL_law_159 hl (by decide) rfl (fun ls hl => ?_)
  have hl : lv_has ls 9 [(5, .int k9), (4, .int (nI (4 * k))), (0, .ref b), (1, .ref (u 0 0)), (2, .ref (u 0 1)), (3, .ref (u 0 2))] := by rw [hu 0, hu 1, hu 2]; exact hl
  refine lv_aload_n hx hb dL_law_161 rfl (lv_at hl 4 rfl) ?_
  refine lv_aload_n hx hb dL_law_162 rfl (lv_at hl 2 rfl) ?_
  refine lv_iload hx hb dL_law_163 (lv_at hl 1 rfl) ?_
  refine lv_iconst (v := 1) hx hb dL_law_165 (by decide) ?_
  refine lv_iadd hx hb dL_law_166 ?_
  rw [show nI (4 * k) + 1 = nI (4 * k + 1) from nI_add _ _]
  refine va_sld hx hb hX hbl hbA hS (vp_in_nI (show 4 * k + 1 < L by omega) (by omega)) dL_law_167 ?_
  rw [← hv_v]
  refine lv_aload_n hx hb dL_law_168 rfl (lv_at hl 2 rfl) ?_
  refine lv_iload hx hb dL_law_169 (lv_at hl 1 rfl) ?_
  refine lv_iconst (v := 2) hx hb dL_law_171 (by decide) ?_
  refine lv_iadd hx hb dL_law_172 ?_
  rw [show nI (4 * k) + 2 = nI (4 * k + 2) from nI_add _ _]
  refine va_sld hx hb hX hbl hbA hS (vp_in_nI (show 4 * k + 2 < L by omega) (by omega)) dL_law_173 ?_
  rw [← hv_w]
  refine lv_aload_n hx hb dL_law_174 rfl (lv_at hl 2 rfl) ?_
  refine lv_iload hx hb dL_law_175 (lv_at hl 1 rfl) ?_
  refine lv_iconst (v := 3) hx hb dL_law_177 (by decide) ?_
  refine lv_iadd hx hb dL_law_178 ?_
  rw [show nI (4 * k) + 3 = nI (4 * k + 3) from nI_add _ _]
  refine va_sld hx hb hX hbl hbA hS (vp_in_nI (show 4 * k + 3 < L by omega) (by omega)) dL_law_179 ?_
  rw [← hv_x]
  have hI := hR.im (by omega)
  refine g_wVi (As := [.int v, .int w, .int x]) (rest := []) (B := fun (_ : Unit) H => gW D (lwA s) u (Wd G u N1 C1 (s_X5_make N M v w x) o1) H) (mc := 0) (ms := 0) C0 (c_X5_make l D G (lwA s) u N1 C1 M o1 H1 hW N hI v w x) (cwV 3 hts gL_law_X5_make rfl rfl rfl (by decide +kernel) ⟨Nat.le_of_ble_eq_true rfl, Nat.le_of_ble_eq_true rfl⟩) hK (va_recv hK (hW.p rfl) (ci := 6) (q0 := 0) rfl rfl) rfl hl rfl (Nat.le_of_ble_eq_true rfl) dL_law_180 ⟨(by show 22 + k * 1173 + 2 + 0 ≤ 601024; omega), (by show 397 + k * 14243 + 39 + 0 ≤ 7293034; omega)⟩ hS (fun r8 u8 H2 locs2 hr8 hW hz hS => ?_)
  replace hr8 : r8 = (f_X5_make N M v w x) := hr8
  refine lv_istore (lv' := [(6, .int r8), (5, .int k9), (4, .int (nI (4 * k))), (0, .ref b), (1, .ref (u 0 0)), (2, .ref (u 0 1)), (3, .ref (u 0 2))]) hx hb dL_law_183 hl (by decide) rfl (fun ls hl => ?_)
  refine lv_aload_n hx hb dL_law_185 rfl (lv_at hl 5 rfl) ?_
  refine g_Vi (As := []) (rest := []) C0 (c_X5_thrown l D G (lwA s) u N1 C1 (s_X5_make N M v w x) o1 H2 hW) (cwV 0 hts gL_law_X5_thrown rfl rfl rfl (by decide +kernel) ⟨Nat.le_of_ble_eq_true rfl, Nat.le_of_ble_eq_true rfl⟩) hK (va_recv hK (hW.p rfl) (ci := 6) (q0 := 0) rfl rfl) rfl hl rfl (Nat.le_of_ble_eq_true rfl) dL_law_186 ⟨(by show 22 + k * 1173 + 2 + 0 ≤ 601024; omega), (by show 397 + k * 14243 + 39 + 0 ≤ 7293034; omega)⟩ hS (fun th locs3 hth3 hS => ?_)
  replace hth3 : th = k9 := hth3.trans hth
  subst th
  refine lv_iload hx hb dL_law_189 (lv_at hl 1 rfl) ?_
  refine lv_icmp_eq (tgt := 196) hx hb dL_law_191 (by decide) (fun _ => ?_) (fun c9 => absurd rfl c9)
  refine lv_iload hx hb dL_law_196 (lv_at hl 1 rfl) ?_
  refine lv_if_ne (tgt := 213) hx hb dL_law_198 (by decide) (fun c9 => ?_) (fun c9 => ?_)
  · refine lv_goto (tgt := 1406) hx hb dL_law_213 (by decide) ?_
    refine W.widen (k := 22 + (k + 1) * 1173) (n := 397 + (k + 1) * 14243) (by omega) (by omega) ?_
    have hl : lv_has ls 9 [(4, .int (nI (4 * k))), (0, .ref b), (1, .ref (u 0 0)), (2, .ref (u 0 1)), (3, .ref (u 0 2))] := lv_sub hl [2, 3, 4, 5, 6] rfl
    rw [hu 0, hu 1, hu 2] at hl
    exact nx u N1 C1 (s_X5_make N M v w x) o1 _ _ _ hW hR1 hu hS hl
  · refine lv_aload_n hx hb dL_law_201 rfl (lv_at hl 6 rfl) ?_
    refine lv_iconst (v := 0) hx hb dL_law_202 (by decide) ?_
    refine g_lald (ad := u) hx hb hK hW 1 (n := 1) (f := o1) rfl rfl (vp_in_nI (by decide : 0 < 1) (by decide)) dL_law_203 ?_
    have hv9 : o1 ((nI 0).toNatClampNeg) = (r8).toInt64 := by rw [hr8]; exact hov c9
    rw [show o1 ((0 : Int32).toNatClampNeg) = (r8).toInt64 from hv9]
    refine lv_iload hx hb dL_law_204 (lv_at hl 0 rfl) ?_
    refine lv_i2l (v := r8.toInt64) hx hb dL_law_206 rfl ?_
    refine W.lcmp hx hb dL_law_207 ?_
    refine lv_if_eq (tgt := 213) hx hb dL_law_208 (by decide) (fun _ => ?_) (fun c8 => absurd (lg_cmp_self _) c8)
    refine lv_goto (tgt := 1406) hx hb dL_law_213 (by decide) ?_
    refine W.widen (k := 22 + (k + 1) * 1173) (n := 397 + (k + 1) * 14243) (by omega) (by omega) ?_
    have hl : lv_has ls 9 [(4, .int (nI (4 * k))), (0, .ref b), (1, .ref (u 0 0)), (2, .ref (u 0 1)), (3, .ref (u 0 2))] := lv_sub hl [2, 3, 4, 5, 6] rfl
    rw [hu 0, hu 1, hu 2] at hl
    exact nx u N1 C1 (s_X5_make N M v w x) o1 _ _ _ hW hR1 hu hS hl
set_option maxHeartbeats 4000000 in
set_option maxRecDepth 100000 in
theorem law_follow {p : Program} {l : Launch} {e : Env} {s : State} {m : MethodId} {below : List Frame} {meth : Method} {c : Code} {b L : Nat} {xs : Nat → Int32} {D : va_G} {G : gG} {mi : Nat} (hLC : LC p l s m meth c b L xs D G mi) {k : Nat} (hk : 4 * k + 4 ≤ L) {ad : gAd} {N : gN} {C M : gT} {o : Nat → Int64} {H : Heap} {locs : List Loc} {ls : Array Slot} (hW : gW D (lwA s) ad (Wd G ad N C M o) H) (hR : Rel k N C M) (hS : va_S (lwA s) s.heap H locs) (hl : lv_has ls 9 [(4, .int (nI (4 * k))), (0, .ref b), (1, .ref (ad 0 0)), (2, .ref (ad 0 1)), (3, .ref (ad 0 2))]) (nx : ∀ (ad2 : gAd) (N2 : gN) (C2 M2 : gT) (o2 : Nat → Int64) (H2 : Heap) (locs2 : List Loc) (ls2 : Array Slot), gW D (lwA s) ad2 (Wd G ad2 N2 C2 M2 o2) H2 → Rel (k + 1) N2 C2 M2 → (∀ i, ad2 0 i = ad 0 i) → va_S (lwA s) s.heap H2 locs2 → lv_has ls2 9 [(4, .int (nI (4 * k))), (0, .ref b), (1, .ref (ad 0 0)), (2, .ref (ad 0 1)), (3, .ref (ad 0 2))] → W p l e room_1 s m #[Value.ref b] below meth c H2 locs2 (22 + (k + 1) * 1173) (397 + (k + 1) * 14243) (lw_Z below #[Value.ref b] s) (F0 m 1406 ls2 [])) : W p l e room_1 s m #[Value.ref b] below meth c H locs (22 + k * 1173) (397 + k * 14243) (lw_Z below #[Value.ref b] s) (F0 m 216 ls []) := by
  obtain ⟨hAt, hl0, hK, hE, hL, hNe, hNc, hL2⟩ := hLC
  obtain ⟨hx, hb, hrt, hml, hown, hts0, hX, hbl, hlocks, hgv⟩ := hAt
  have hown : s.vm.findClass RL = some m.cls := hown
  have hts : ∀ w ∈ wsL_law, w.before #[Value.ref b] s = true := fun w h => hts0 w (wsL_law_in w h)
  have C0 : CallFix p m c cL_law 9 s #[Value.ref b] wsL_law RL := ⟨hx, hb, hml, hown, hts⟩
  have hbA : ¬ lwA s b := Nat.not_le.mpr hbl
  have hA : ∀ q, H.size ≤ q → lwA s q := fun q h => Nat.le_trans hS.1 h
  have hk5 : k ≤ 511 := by omega
  obtain ⟨v, hv_v⟩ : ∃ y : Int32, y = (xs (nI (4 * k + 1)).toNatClampNeg) := ⟨_, rfl⟩
  obtain ⟨w, hv_w⟩ : ∃ y : Int32, y = (xs (nI (4 * k + 2)).toNatClampNeg) := ⟨_, rfl⟩
  refine lv_aload_n hx hb dL_law_216 rfl (lv_at hl 2 rfl) ?_
  refine lv_aload_n hx hb dL_law_217 rfl (lv_at hl 1 rfl) ?_
  refine lv_iload hx hb dL_law_218 (lv_at hl 0 rfl) ?_
  refine lv_iconst (v := 1) hx hb dL_law_220 (by decide) ?_
  refine lv_iadd hx hb dL_law_221 ?_
  rw [show nI (4 * k) + 1 = nI (4 * k + 1) from nI_add _ _]
  refine va_sld hx hb hX hbl hbA hS (vp_in_nI (show 4 * k + 1 < L by omega) (by omega)) dL_law_222 ?_
  rw [← hv_v]
  refine lv_aload_n hx hb dL_law_223 rfl (lv_at hl 1 rfl) ?_
  refine lv_iload hx hb dL_law_224 (lv_at hl 0 rfl) ?_
  refine lv_iconst (v := 2) hx hb dL_law_226 (by decide) ?_
  refine lv_iadd hx hb dL_law_227 ?_
  rw [show nI (4 * k) + 2 = nI (4 * k + 2) from nI_add _ _]
  refine va_sld hx hb hX hbl hbA hS (vp_in_nI (show 4 * k + 2 < L by omega) (by omega)) dL_law_228 ?_
  rw [← hv_w]
  refine lv_aload_n hx hb dL_law_229 rfl (lv_at hl 4 rfl) ?_
  have hM9 := c_L_follow l D G (lwA s) ad N C M o H hW hl0 hR.ic mi v w
  refine g_ZSi (As := [.ref (ad 0 0), .int v, .int w, .ref (ad 0 2)]) (rest := []) (post := fun (r : Int32) (_ : Unit) => okW oIAS (f_X4_follow C N v w) r) (B := fun (_ : Unit) H => gW D (lwA s) ad (oW (f_X4_follow C N v w) (fun a => Wd G ad N (s_X4_follow C N v w) M (oL o a.toInt64)) (Wd G ad N C M o)) H) (mc := 1) (ms := 6) C0 hM9 (vx_cwSW 4 hts gL_law_L_follow rfl rfl rfl (by decide +kernel) ⟨Nat.le_of_ble_eq_true rfl, Nat.le_of_ble_eq_true rfl⟩) hK hE hL hNe hNc rfl rfl hl rfl (Nat.le_of_ble_eq_true rfl) dL_law_230 ⟨(by show 22 + k * 1173 + 1 ≤ 601024; omega), (by show 397 + k * 14243 + 6 ≤ 7293034; omega)⟩ hS (fun k9 u H1 locs1 hok hW hz hS => ?_)
  have hq := q_follow hR v w
  obtain ⟨N1, C1, o1, hW, hR1, hth, hov⟩ := st_W (val := fun a => a.toInt64) hd_IAS hok hq.1 hW (hq.2.mono (Nat.le_succ k)) (fun E hE9 => ⟨rfl, (er_follow hE9).1⟩)
  refine lv_istore (lv' := [(5, .int k9), (4, .int (nI (4 * k))), (0, .ref b), (1, .ref (ad 0 0)), (2, .ref (ad 0 1)), (3, .ref (ad 0 2))]) hx hb dL_law_233 hl (by decide) rfl (fun ls hl => ?_)
  refine lv_aload_n hx hb dL_law_235 rfl (lv_at hl 4 rfl) ?_
  refine lv_aload_n hx hb dL_law_236 rfl (lv_at hl 2 rfl) ?_
  refine lv_iload hx hb dL_law_237 (lv_at hl 1 rfl) ?_
  refine lv_iconst (v := 1) hx hb dL_law_239 (by decide) ?_
  refine lv_iadd hx hb dL_law_240 ?_
  rw [show nI (4 * k) + 1 = nI (4 * k + 1) from nI_add _ _]
  refine va_sld hx hb hX hbl hbA hS (vp_in_nI (show 4 * k + 1 < L by omega) (by omega)) dL_law_241 ?_
  rw [← hv_v]
  refine lv_aload_n hx hb dL_law_242 rfl (lv_at hl 2 rfl) ?_
  refine lv_iload hx hb dL_law_243 (lv_at hl 1 rfl) ?_
  refine lv_iconst (v := 2) hx hb dL_law_245 (by decide) ?_
  refine lv_iadd hx hb dL_law_246 ?_
  rw [show nI (4 * k) + 2 = nI (4 * k + 2) from nI_add _ _]
  refine va_sld hx hb hX hbl hbA hS (vp_in_nI (show 4 * k + 2 < L by omega) (by omega)) dL_law_247 ?_
  rw [← hv_w]
  have hI := hR.im (by omega)
  refine g_wVi (As := [.int v, .int w]) (rest := []) (B := fun (_ : Unit) H => gW D (lwA s) ad (Wd G ad N1 C1 (s_X5_follow N M v w) o1) H) (mc := 0) (ms := 0) C0 (c_X5_follow l D G (lwA s) ad N1 C1 M o1 H1 hW N hI v w) (cwV 2 hts gL_law_X5_follow rfl rfl rfl (by decide +kernel) ⟨Nat.le_of_ble_eq_true rfl, Nat.le_of_ble_eq_true rfl⟩) hK (va_recv hK (hW.p rfl) (ci := 6) (q0 := 0) rfl rfl) rfl hl rfl (Nat.le_of_ble_eq_true rfl) dL_law_248 ⟨(by show 22 + k * 1173 + 1 + 0 ≤ 601024; omega), (by show 397 + k * 14243 + 6 + 0 ≤ 7293034; omega)⟩ hS (fun r8 u8 H2 locs2 hr8 hW hz hS => ?_)
  replace hr8 : r8 = (f_X5_follow N M v w) := hr8
  refine lv_istore (lv' := [(6, .int r8), (5, .int k9), (4, .int (nI (4 * k))), (0, .ref b), (1, .ref (ad 0 0)), (2, .ref (ad 0 1)), (3, .ref (ad 0 2))]) hx hb dL_law_251 hl (by decide) rfl (fun ls hl => ?_)
  refine lv_aload_n hx hb dL_law_253 rfl (lv_at hl 5 rfl) ?_
  refine g_Vi (As := []) (rest := []) C0 (c_X5_thrown l D G (lwA s) ad N1 C1 (s_X5_follow N M v w) o1 H2 hW) (cwV 0 hts gL_law_X5_thrown rfl rfl rfl (by decide +kernel) ⟨Nat.le_of_ble_eq_true rfl, Nat.le_of_ble_eq_true rfl⟩) hK (va_recv hK (hW.p rfl) (ci := 6) (q0 := 0) rfl rfl) rfl hl rfl (Nat.le_of_ble_eq_true rfl) dL_law_254 ⟨(by show 22 + k * 1173 + 1 + 0 ≤ 601024; omega), (by show 397 + k * 14243 + 6 + 0 ≤ 7293034; omega)⟩ hS (fun th locs3 hth3 hS => ?_)
  replace hth3 : th = k9 := hth3.trans hth
  subst th
  refine lv_iload hx hb dL_law_257 (lv_at hl 1 rfl) ?_
  refine lv_icmp_eq (tgt := 264) hx hb dL_law_259 (by decide) (fun _ => ?_) (fun c9 => absurd rfl c9)
  refine lv_iload hx hb dL_law_264 (lv_at hl 1 rfl) ?_
  refine lv_if_ne (tgt := 281) hx hb dL_law_266 (by decide) (fun c9 => ?_) (fun c9 => ?_)
  · refine lv_goto (tgt := 1406) hx hb dL_law_281 (by decide) ?_
    refine W.widen (k := 22 + (k + 1) * 1173) (n := 397 + (k + 1) * 14243) (by omega) (by omega) ?_
    have hl : lv_has ls 9 [(4, .int (nI (4 * k))), (0, .ref b), (1, .ref (ad 0 0)), (2, .ref (ad 0 1)), (3, .ref (ad 0 2))] := lv_sub hl [2, 3, 4, 5, 6] rfl
    exact nx ad N1 C1 (s_X5_follow N M v w) o1 _ _ _ hW hR1 (fun _ => rfl) hS hl
  · refine lv_aload_n hx hb dL_law_269 rfl (lv_at hl 6 rfl) ?_
    refine lv_iconst (v := 0) hx hb dL_law_270 (by decide) ?_
    refine g_lald (ad := ad) hx hb hK hW 1 (n := 1) (f := o1) rfl rfl (vp_in_nI (by decide : 0 < 1) (by decide)) dL_law_271 ?_
    have hv9 : o1 ((nI 0).toNatClampNeg) = (r8).toInt64 := by rw [hr8]; exact hov c9
    rw [show o1 ((0 : Int32).toNatClampNeg) = (r8).toInt64 from hv9]
    refine lv_iload hx hb dL_law_272 (lv_at hl 0 rfl) ?_
    refine lv_i2l (v := r8.toInt64) hx hb dL_law_274 rfl ?_
    refine W.lcmp hx hb dL_law_275 ?_
    refine lv_if_eq (tgt := 281) hx hb dL_law_276 (by decide) (fun _ => ?_) (fun c8 => absurd (lg_cmp_self _) c8)
    refine lv_goto (tgt := 1406) hx hb dL_law_281 (by decide) ?_
    refine W.widen (k := 22 + (k + 1) * 1173) (n := 397 + (k + 1) * 14243) (by omega) (by omega) ?_
    have hl : lv_has ls 9 [(4, .int (nI (4 * k))), (0, .ref b), (1, .ref (ad 0 0)), (2, .ref (ad 0 1)), (3, .ref (ad 0 2))] := lv_sub hl [2, 3, 4, 5, 6] rfl
    exact nx ad N1 C1 (s_X5_follow N M v w) o1 _ _ _ hW hR1 (fun _ => rfl) hS hl
set_option maxHeartbeats 4000000 in
set_option maxRecDepth 100000 in
theorem law_post {p : Program} {l : Launch} {e : Env} {s : State} {m : MethodId} {below : List Frame} {meth : Method} {c : Code} {b L : Nat} {xs : Nat → Int32} {D : va_G} {G : gG} {mi : Nat} (hLC : LC p l s m meth c b L xs D G mi) {k : Nat} (hk : 4 * k + 4 ≤ L) {ad : gAd} {N : gN} {C M : gT} {o : Nat → Int64} {H : Heap} {locs : List Loc} {ls : Array Slot} (hW : gW D (lwA s) ad (Wd G ad N C M o) H) (hR : Rel k N C M) (hS : va_S (lwA s) s.heap H locs) (hl : lv_has ls 9 [(4, .int (nI (4 * k))), (0, .ref b), (1, .ref (ad 0 0)), (2, .ref (ad 0 1)), (3, .ref (ad 0 2))]) (nx : ∀ (ad2 : gAd) (N2 : gN) (C2 M2 : gT) (o2 : Nat → Int64) (H2 : Heap) (locs2 : List Loc) (ls2 : Array Slot), gW D (lwA s) ad2 (Wd G ad2 N2 C2 M2 o2) H2 → Rel (k + 1) N2 C2 M2 → (∀ i, ad2 0 i = ad 0 i) → va_S (lwA s) s.heap H2 locs2 → lv_has ls2 9 [(4, .int (nI (4 * k))), (0, .ref b), (1, .ref (ad 0 0)), (2, .ref (ad 0 1)), (3, .ref (ad 0 2))] → W p l e room_1 s m #[Value.ref b] below meth c H2 locs2 (22 + (k + 1) * 1173) (397 + (k + 1) * 14243) (lw_Z below #[Value.ref b] s) (F0 m 1406 ls2 [])) : W p l e room_1 s m #[Value.ref b] below meth c H locs (22 + k * 1173) (397 + k * 14243) (lw_Z below #[Value.ref b] s) (F0 m 284 ls []) := by
  obtain ⟨hAt, hl0, hK, hE, hL, hNe, hNc, hL2⟩ := hLC
  obtain ⟨hx, hb, hrt, hml, hown, hts0, hX, hbl, hlocks, hgv⟩ := hAt
  have hown : s.vm.findClass RL = some m.cls := hown
  have hts : ∀ w ∈ wsL_law, w.before #[Value.ref b] s = true := fun w h => hts0 w (wsL_law_in w h)
  have C0 : CallFix p m c cL_law 9 s #[Value.ref b] wsL_law RL := ⟨hx, hb, hml, hown, hts⟩
  have hbA : ¬ lwA s b := Nat.not_le.mpr hbl
  have hA : ∀ q, H.size ≤ q → lwA s q := fun q h => Nat.le_trans hS.1 h
  have hk5 : k ≤ 511 := by omega
  refine lv_aload_n hx hb dL_law_284 rfl (lv_at hl 2 rfl) ?_
  refine lv_aload_n hx hb dL_law_285 rfl (lv_at hl 4 rfl) ?_
  have hM9 := c_L_post l D G (lwA s) ad N C M o H hW hl0 hR.ic hA hR.ir mi 
  refine g_ZSi (As := [.ref (ad 0 0), .ref (ad 0 2)]) (rest := []) (post := fun (r : Int32) (u : gAd) => okW oS (f_X4_post C N) r ∧ ∀ i, u 0 i = ad 0 i) (B := fun u H => gW D (lwA s) u (oW (f_X4_post C N) (fun a => Wd G u (n_X4_post C N) (s_X4_post C N) M (oL o a.toInt64)) (Wd G u N C M o)) H) (mc := 3) (ms := 61) C0 hM9 (vx_cwSW 2 hts gL_law_L_post rfl rfl rfl (by decide +kernel) ⟨Nat.le_of_ble_eq_true rfl, Nat.le_of_ble_eq_true rfl⟩) hK hE hL hNe hNc rfl rfl hl rfl (Nat.le_of_ble_eq_true rfl) dL_law_286 ⟨(by show 22 + k * 1173 + 3 ≤ 601024; omega), (by show 397 + k * 14243 + 61 ≤ 7293034; omega)⟩ hS (fun k9 u H1 locs1 hok hW hz hS => ?_)
  obtain ⟨hok, hu⟩ := hok
  have hq := q_post hR 
  obtain ⟨N1, C1, o1, hW, hR1, hth, hov⟩ := st_W (val := fun a => a.toInt64) hd_S hok hq.1 hW (hq.2.mono (Nat.le_succ k)) (fun E hE9 => (er_post hE9).1)
  refine lv_istore (lv' := [(5, .int k9), (4, .int (nI (4 * k))), (0, .ref b), (1, .ref (ad 0 0)), (2, .ref (ad 0 1)), (3, .ref (ad 0 2))]) hx hb dL_law_289 hl (by decide) rfl (fun ls hl => ?_)
  have hl : lv_has ls 9 [(5, .int k9), (4, .int (nI (4 * k))), (0, .ref b), (1, .ref (u 0 0)), (2, .ref (u 0 1)), (3, .ref (u 0 2))] := by rw [hu 0, hu 1, hu 2]; exact hl
  refine lv_aload_n hx hb dL_law_291 rfl (lv_at hl 4 rfl) ?_
  have hI := hR.im (by omega)
  refine g_wVi (As := []) (rest := []) (B := fun (_ : Unit) H => gW D (lwA s) u (Wd G u N1 C1 (s_X5_post N M) o1) H) (mc := 0) (ms := 0) C0 (c_X5_post l D G (lwA s) u N1 C1 M o1 H1 hW N hI ) (cwV 0 hts gL_law_X5_post rfl rfl rfl (by decide +kernel) ⟨Nat.le_of_ble_eq_true rfl, Nat.le_of_ble_eq_true rfl⟩) hK (va_recv hK (hW.p rfl) (ci := 6) (q0 := 0) rfl rfl) rfl hl rfl (Nat.le_of_ble_eq_true rfl) dL_law_292 ⟨(by show 22 + k * 1173 + 3 + 0 ≤ 601024; omega), (by show 397 + k * 14243 + 61 + 0 ≤ 7293034; omega)⟩ hS (fun r8 u8 H2 locs2 hr8 hW hz hS => ?_)
  replace hr8 : r8 = (f_X5_post N M) := hr8
  refine lv_istore (lv' := [(6, .int r8), (5, .int k9), (4, .int (nI (4 * k))), (0, .ref b), (1, .ref (u 0 0)), (2, .ref (u 0 1)), (3, .ref (u 0 2))]) hx hb dL_law_295 hl (by decide) rfl (fun ls hl => ?_)
  refine lv_aload_n hx hb dL_law_297 rfl (lv_at hl 5 rfl) ?_
  refine g_Vi (As := []) (rest := []) C0 (c_X5_thrown l D G (lwA s) u N1 C1 (s_X5_post N M) o1 H2 hW) (cwV 0 hts gL_law_X5_thrown rfl rfl rfl (by decide +kernel) ⟨Nat.le_of_ble_eq_true rfl, Nat.le_of_ble_eq_true rfl⟩) hK (va_recv hK (hW.p rfl) (ci := 6) (q0 := 0) rfl rfl) rfl hl rfl (Nat.le_of_ble_eq_true rfl) dL_law_298 ⟨(by show 22 + k * 1173 + 3 + 0 ≤ 601024; omega), (by show 397 + k * 14243 + 61 + 0 ≤ 7293034; omega)⟩ hS (fun th locs3 hth3 hS => ?_)
  replace hth3 : th = k9 := hth3.trans hth
  subst th
  refine lv_iload hx hb dL_law_301 (lv_at hl 1 rfl) ?_
  refine lv_icmp_eq (tgt := 308) hx hb dL_law_303 (by decide) (fun _ => ?_) (fun c9 => absurd rfl c9)
  refine lv_iload hx hb dL_law_308 (lv_at hl 1 rfl) ?_
  refine lv_if_ne (tgt := 325) hx hb dL_law_310 (by decide) (fun c9 => ?_) (fun c9 => ?_)
  · refine lv_goto (tgt := 1406) hx hb dL_law_325 (by decide) ?_
    refine W.widen (k := 22 + (k + 1) * 1173) (n := 397 + (k + 1) * 14243) (by omega) (by omega) ?_
    have hl : lv_has ls 9 [(4, .int (nI (4 * k))), (0, .ref b), (1, .ref (u 0 0)), (2, .ref (u 0 1)), (3, .ref (u 0 2))] := lv_sub hl [2, 3, 4, 5, 6] rfl
    rw [hu 0, hu 1, hu 2] at hl
    exact nx u N1 C1 (s_X5_post N M) o1 _ _ _ hW hR1 hu hS hl
  · refine lv_aload_n hx hb dL_law_313 rfl (lv_at hl 6 rfl) ?_
    refine lv_iconst (v := 0) hx hb dL_law_314 (by decide) ?_
    refine g_lald (ad := u) hx hb hK hW 1 (n := 1) (f := o1) rfl rfl (vp_in_nI (by decide : 0 < 1) (by decide)) dL_law_315 ?_
    have hv9 : o1 ((nI 0).toNatClampNeg) = (r8).toInt64 := by rw [hr8]; exact hov c9
    rw [show o1 ((0 : Int32).toNatClampNeg) = (r8).toInt64 from hv9]
    refine lv_iload hx hb dL_law_316 (lv_at hl 0 rfl) ?_
    refine lv_i2l (v := r8.toInt64) hx hb dL_law_318 rfl ?_
    refine W.lcmp hx hb dL_law_319 ?_
    refine lv_if_eq (tgt := 325) hx hb dL_law_320 (by decide) (fun _ => ?_) (fun c8 => absurd (lg_cmp_self _) c8)
    refine lv_goto (tgt := 1406) hx hb dL_law_325 (by decide) ?_
    refine W.widen (k := 22 + (k + 1) * 1173) (n := 397 + (k + 1) * 14243) (by omega) (by omega) ?_
    have hl : lv_has ls 9 [(4, .int (nI (4 * k))), (0, .ref b), (1, .ref (u 0 0)), (2, .ref (u 0 1)), (3, .ref (u 0 2))] := lv_sub hl [2, 3, 4, 5, 6] rfl
    rw [hu 0, hu 1, hu 2] at hl
    exact nx u N1 C1 (s_X5_post N M) o1 _ _ _ hW hR1 hu hS hl
set_option maxHeartbeats 4000000 in
set_option maxRecDepth 100000 in
theorem law_come {p : Program} {l : Launch} {e : Env} {s : State} {m : MethodId} {below : List Frame} {meth : Method} {c : Code} {b L : Nat} {xs : Nat → Int32} {D : va_G} {G : gG} {mi : Nat} (hLC : LC p l s m meth c b L xs D G mi) {k : Nat} (hk : 4 * k + 4 ≤ L) {ad : gAd} {N : gN} {C M : gT} {o : Nat → Int64} {H : Heap} {locs : List Loc} {ls : Array Slot} (hW : gW D (lwA s) ad (Wd G ad N C M o) H) (hR : Rel k N C M) (hS : va_S (lwA s) s.heap H locs) (hl : lv_has ls 9 [(4, .int (nI (4 * k))), (0, .ref b), (1, .ref (ad 0 0)), (2, .ref (ad 0 1)), (3, .ref (ad 0 2))]) (nx : ∀ (ad2 : gAd) (N2 : gN) (C2 M2 : gT) (o2 : Nat → Int64) (H2 : Heap) (locs2 : List Loc) (ls2 : Array Slot), gW D (lwA s) ad2 (Wd G ad2 N2 C2 M2 o2) H2 → Rel (k + 1) N2 C2 M2 → (∀ i, ad2 0 i = ad 0 i) → va_S (lwA s) s.heap H2 locs2 → lv_has ls2 9 [(4, .int (nI (4 * k))), (0, .ref b), (1, .ref (ad 0 0)), (2, .ref (ad 0 1)), (3, .ref (ad 0 2))] → W p l e room_1 s m #[Value.ref b] below meth c H2 locs2 (22 + (k + 1) * 1173) (397 + (k + 1) * 14243) (lw_Z below #[Value.ref b] s) (F0 m 1406 ls2 [])) : W p l e room_1 s m #[Value.ref b] below meth c H locs (22 + k * 1173) (397 + k * 14243) (lw_Z below #[Value.ref b] s) (F0 m 328 ls []) := by
  obtain ⟨hAt, hl0, hK, hE, hL, hNe, hNc, hL2⟩ := hLC
  obtain ⟨hx, hb, hrt, hml, hown, hts0, hX, hbl, hlocks, hgv⟩ := hAt
  have hown : s.vm.findClass RL = some m.cls := hown
  have hts : ∀ w ∈ wsL_law, w.before #[Value.ref b] s = true := fun w h => hts0 w (wsL_law_in w h)
  have C0 : CallFix p m c cL_law 9 s #[Value.ref b] wsL_law RL := ⟨hx, hb, hml, hown, hts⟩
  have hbA : ¬ lwA s b := Nat.not_le.mpr hbl
  have hA : ∀ q, H.size ≤ q → lwA s q := fun q h => Nat.le_trans hS.1 h
  have hk5 : k ≤ 511 := by omega
  obtain ⟨v, hv_v⟩ : ∃ y : Int32, y = (xs (nI (4 * k + 1)).toNatClampNeg) := ⟨_, rfl⟩
  refine lv_aload_n hx hb dL_law_328 rfl (lv_at hl 2 rfl) ?_
  refine lv_aload_n hx hb dL_law_329 rfl (lv_at hl 1 rfl) ?_
  refine lv_iload hx hb dL_law_330 (lv_at hl 0 rfl) ?_
  refine lv_iconst (v := 1) hx hb dL_law_332 (by decide) ?_
  refine lv_iadd hx hb dL_law_333 ?_
  rw [show nI (4 * k) + 1 = nI (4 * k + 1) from nI_add _ _]
  refine va_sld hx hb hX hbl hbA hS (vp_in_nI (show 4 * k + 1 < L by omega) (by omega)) dL_law_334 ?_
  rw [← hv_v]
  refine lv_aload_n hx hb dL_law_335 rfl (lv_at hl 4 rfl) ?_
  have hM9 := c_L_come l D G (lwA s) ad N C M o H hW hl0 hR.ic hA hR.ir mi v
  refine g_ZSi (As := [.ref (ad 0 0), .int v, .ref (ad 0 2)]) (rest := []) (post := fun (r : Int32) (u : gAd) => okW oAS (f_X4_come C N v) r ∧ ∀ i, u 0 i = ad 0 i) (B := fun u H => gW D (lwA s) u (oW (f_X4_come C N v) (fun a => Wd G u (n_X4_come C N v) (s_X4_come C N v) M (oL o a.toInt64)) (Wd G u N C M o)) H) (mc := 2) (ms := 38) C0 hM9 (vx_cwSW 3 hts gL_law_L_come rfl rfl rfl (by decide +kernel) ⟨Nat.le_of_ble_eq_true rfl, Nat.le_of_ble_eq_true rfl⟩) hK hE hL hNe hNc rfl rfl hl rfl (Nat.le_of_ble_eq_true rfl) dL_law_336 ⟨(by show 22 + k * 1173 + 2 ≤ 601024; omega), (by show 397 + k * 14243 + 38 ≤ 7293034; omega)⟩ hS (fun k9 u H1 locs1 hok hW hz hS => ?_)
  obtain ⟨hok, hu⟩ := hok
  have hq := q_come hR v
  obtain ⟨N1, C1, o1, hW, hR1, hth, hov⟩ := st_W (val := fun a => a.toInt64) hd_AS hok hq.1 hW (hq.2.mono (Nat.le_succ k)) (fun E hE9 => (er_come hE9).1)
  refine lv_istore (lv' := [(5, .int k9), (4, .int (nI (4 * k))), (0, .ref b), (1, .ref (ad 0 0)), (2, .ref (ad 0 1)), (3, .ref (ad 0 2))]) hx hb dL_law_339 hl (by decide) rfl (fun ls hl => ?_)
  have hl : lv_has ls 9 [(5, .int k9), (4, .int (nI (4 * k))), (0, .ref b), (1, .ref (u 0 0)), (2, .ref (u 0 1)), (3, .ref (u 0 2))] := by rw [hu 0, hu 1, hu 2]; exact hl
  refine lv_aload_n hx hb dL_law_341 rfl (lv_at hl 4 rfl) ?_
  refine lv_aload_n hx hb dL_law_342 rfl (lv_at hl 2 rfl) ?_
  refine lv_iload hx hb dL_law_343 (lv_at hl 1 rfl) ?_
  refine lv_iconst (v := 1) hx hb dL_law_345 (by decide) ?_
  refine lv_iadd hx hb dL_law_346 ?_
  rw [show nI (4 * k) + 1 = nI (4 * k + 1) from nI_add _ _]
  refine va_sld hx hb hX hbl hbA hS (vp_in_nI (show 4 * k + 1 < L by omega) (by omega)) dL_law_347 ?_
  rw [← hv_v]
  have hI := hR.im (by omega)
  refine g_wVi (As := [.int v]) (rest := []) (B := fun (_ : Unit) H => gW D (lwA s) u (Wd G u N1 C1 (s_X5_come N M v) o1) H) (mc := 0) (ms := 0) C0 (c_X5_come l D G (lwA s) u N1 C1 M o1 H1 hW N hI v) (cwV 1 hts gL_law_X5_come rfl rfl rfl (by decide +kernel) ⟨Nat.le_of_ble_eq_true rfl, Nat.le_of_ble_eq_true rfl⟩) hK (va_recv hK (hW.p rfl) (ci := 6) (q0 := 0) rfl rfl) rfl hl rfl (Nat.le_of_ble_eq_true rfl) dL_law_348 ⟨(by show 22 + k * 1173 + 2 + 0 ≤ 601024; omega), (by show 397 + k * 14243 + 38 + 0 ≤ 7293034; omega)⟩ hS (fun r8 u8 H2 locs2 hr8 hW hz hS => ?_)
  replace hr8 : r8 = (f_X5_come N M v) := hr8
  refine lv_istore (lv' := [(6, .int r8), (5, .int k9), (4, .int (nI (4 * k))), (0, .ref b), (1, .ref (u 0 0)), (2, .ref (u 0 1)), (3, .ref (u 0 2))]) hx hb dL_law_351 hl (by decide) rfl (fun ls hl => ?_)
  refine lv_aload_n hx hb dL_law_353 rfl (lv_at hl 5 rfl) ?_
  refine g_Vi (As := []) (rest := []) C0 (c_X5_thrown l D G (lwA s) u N1 C1 (s_X5_come N M v) o1 H2 hW) (cwV 0 hts gL_law_X5_thrown rfl rfl rfl (by decide +kernel) ⟨Nat.le_of_ble_eq_true rfl, Nat.le_of_ble_eq_true rfl⟩) hK (va_recv hK (hW.p rfl) (ci := 6) (q0 := 0) rfl rfl) rfl hl rfl (Nat.le_of_ble_eq_true rfl) dL_law_354 ⟨(by show 22 + k * 1173 + 2 + 0 ≤ 601024; omega), (by show 397 + k * 14243 + 38 + 0 ≤ 7293034; omega)⟩ hS (fun th locs3 hth3 hS => ?_)
  replace hth3 : th = k9 := hth3.trans hth
  subst th
  refine lv_iload hx hb dL_law_357 (lv_at hl 1 rfl) ?_
  refine lv_icmp_eq (tgt := 364) hx hb dL_law_359 (by decide) (fun _ => ?_) (fun c9 => absurd rfl c9)
  refine lv_iload hx hb dL_law_364 (lv_at hl 1 rfl) ?_
  refine lv_if_ne (tgt := 381) hx hb dL_law_366 (by decide) (fun c9 => ?_) (fun c9 => ?_)
  · refine lv_goto (tgt := 1406) hx hb dL_law_381 (by decide) ?_
    refine W.widen (k := 22 + (k + 1) * 1173) (n := 397 + (k + 1) * 14243) (by omega) (by omega) ?_
    have hl : lv_has ls 9 [(4, .int (nI (4 * k))), (0, .ref b), (1, .ref (u 0 0)), (2, .ref (u 0 1)), (3, .ref (u 0 2))] := lv_sub hl [2, 3, 4, 5, 6] rfl
    rw [hu 0, hu 1, hu 2] at hl
    exact nx u N1 C1 (s_X5_come N M v) o1 _ _ _ hW hR1 hu hS hl
  · refine lv_aload_n hx hb dL_law_369 rfl (lv_at hl 6 rfl) ?_
    refine lv_iconst (v := 0) hx hb dL_law_370 (by decide) ?_
    refine g_lald (ad := u) hx hb hK hW 1 (n := 1) (f := o1) rfl rfl (vp_in_nI (by decide : 0 < 1) (by decide)) dL_law_371 ?_
    have hv9 : o1 ((nI 0).toNatClampNeg) = (r8).toInt64 := by rw [hr8]; exact hov c9
    rw [show o1 ((0 : Int32).toNatClampNeg) = (r8).toInt64 from hv9]
    refine lv_iload hx hb dL_law_372 (lv_at hl 0 rfl) ?_
    refine lv_i2l (v := r8.toInt64) hx hb dL_law_374 rfl ?_
    refine W.lcmp hx hb dL_law_375 ?_
    refine lv_if_eq (tgt := 381) hx hb dL_law_376 (by decide) (fun _ => ?_) (fun c8 => absurd (lg_cmp_self _) c8)
    refine lv_goto (tgt := 1406) hx hb dL_law_381 (by decide) ?_
    refine W.widen (k := 22 + (k + 1) * 1173) (n := 397 + (k + 1) * 14243) (by omega) (by omega) ?_
    have hl : lv_has ls 9 [(4, .int (nI (4 * k))), (0, .ref b), (1, .ref (u 0 0)), (2, .ref (u 0 1)), (3, .ref (u 0 2))] := lv_sub hl [2, 3, 4, 5, 6] rfl
    rw [hu 0, hu 1, hu 2] at hl
    exact nx u N1 C1 (s_X5_come N M v) o1 _ _ _ hW hR1 hu hS hl
set_option maxHeartbeats 4000000 in
set_option maxRecDepth 100000 in
theorem law_tell {p : Program} {l : Launch} {e : Env} {s : State} {m : MethodId} {below : List Frame} {meth : Method} {c : Code} {b L : Nat} {xs : Nat → Int32} {D : va_G} {G : gG} {mi : Nat} (hLC : LC p l s m meth c b L xs D G mi) {k : Nat} (hk : 4 * k + 4 ≤ L) {ad : gAd} {N : gN} {C M : gT} {o : Nat → Int64} {H : Heap} {locs : List Loc} {ls : Array Slot} (hW : gW D (lwA s) ad (Wd G ad N C M o) H) (hR : Rel k N C M) (hS : va_S (lwA s) s.heap H locs) (hl : lv_has ls 9 [(4, .int (nI (4 * k))), (0, .ref b), (1, .ref (ad 0 0)), (2, .ref (ad 0 1)), (3, .ref (ad 0 2))]) (nx : ∀ (ad2 : gAd) (N2 : gN) (C2 M2 : gT) (o2 : Nat → Int64) (H2 : Heap) (locs2 : List Loc) (ls2 : Array Slot), gW D (lwA s) ad2 (Wd G ad2 N2 C2 M2 o2) H2 → Rel (k + 1) N2 C2 M2 → (∀ i, ad2 0 i = ad 0 i) → va_S (lwA s) s.heap H2 locs2 → lv_has ls2 9 [(4, .int (nI (4 * k))), (0, .ref b), (1, .ref (ad 0 0)), (2, .ref (ad 0 1)), (3, .ref (ad 0 2))] → W p l e room_1 s m #[Value.ref b] below meth c H2 locs2 (22 + (k + 1) * 1173) (397 + (k + 1) * 14243) (lw_Z below #[Value.ref b] s) (F0 m 1406 ls2 [])) : W p l e room_1 s m #[Value.ref b] below meth c H locs (22 + k * 1173) (397 + k * 14243) (lw_Z below #[Value.ref b] s) (F0 m 384 ls []) := by
  obtain ⟨hAt, hl0, hK, hE, hL, hNe, hNc, hL2⟩ := hLC
  obtain ⟨hx, hb, hrt, hml, hown, hts0, hX, hbl, hlocks, hgv⟩ := hAt
  have hown : s.vm.findClass RL = some m.cls := hown
  have hts : ∀ w ∈ wsL_law, w.before #[Value.ref b] s = true := fun w h => hts0 w (wsL_law_in w h)
  have C0 : CallFix p m c cL_law 9 s #[Value.ref b] wsL_law RL := ⟨hx, hb, hml, hown, hts⟩
  have hbA : ¬ lwA s b := Nat.not_le.mpr hbl
  have hA : ∀ q, H.size ≤ q → lwA s q := fun q h => Nat.le_trans hS.1 h
  have hk5 : k ≤ 511 := by omega
  obtain ⟨v, hv_v⟩ : ∃ y : Int32, y = (xs (nI (4 * k + 1)).toNatClampNeg) := ⟨_, rfl⟩
  obtain ⟨w, hv_w⟩ : ∃ y : Int32, y = (xs (nI (4 * k + 2)).toNatClampNeg) := ⟨_, rfl⟩
  obtain ⟨x, hv_x⟩ : ∃ y : Int32, y = (xs (nI (4 * k + 3)).toNatClampNeg) := ⟨_, rfl⟩
  refine lv_aload_n hx hb dL_law_384 rfl (lv_at hl 2 rfl) ?_
  refine lv_aload_n hx hb dL_law_385 rfl (lv_at hl 1 rfl) ?_
  refine lv_iload hx hb dL_law_386 (lv_at hl 0 rfl) ?_
  refine lv_iconst (v := 1) hx hb dL_law_388 (by decide) ?_
  refine lv_iadd hx hb dL_law_389 ?_
  rw [show nI (4 * k) + 1 = nI (4 * k + 1) from nI_add _ _]
  refine va_sld hx hb hX hbl hbA hS (vp_in_nI (show 4 * k + 1 < L by omega) (by omega)) dL_law_390 ?_
  rw [← hv_v]
  refine lv_aload_n hx hb dL_law_391 rfl (lv_at hl 1 rfl) ?_
  refine lv_iload hx hb dL_law_392 (lv_at hl 0 rfl) ?_
  refine lv_iconst (v := 2) hx hb dL_law_394 (by decide) ?_
  refine lv_iadd hx hb dL_law_395 ?_
  rw [show nI (4 * k) + 2 = nI (4 * k + 2) from nI_add _ _]
  refine va_sld hx hb hX hbl hbA hS (vp_in_nI (show 4 * k + 2 < L by omega) (by omega)) dL_law_396 ?_
  rw [← hv_w]
  refine lv_aload_n hx hb dL_law_397 rfl (lv_at hl 1 rfl) ?_
  refine lv_iload hx hb dL_law_398 (lv_at hl 0 rfl) ?_
  refine lv_iconst (v := 3) hx hb dL_law_400 (by decide) ?_
  refine lv_iadd hx hb dL_law_401 ?_
  rw [show nI (4 * k) + 3 = nI (4 * k + 3) from nI_add _ _]
  refine va_sld hx hb hX hbl hbA hS (vp_in_nI (show 4 * k + 3 < L by omega) (by omega)) dL_law_402 ?_
  rw [← hv_x]
  refine lv_aload_n hx hb dL_law_403 rfl (lv_at hl 4 rfl) ?_
  have hM9 := c_L_tell l D G (lwA s) ad N C M o H hW hl0 hR.ic hA hR.ir mi v w x
  refine g_ZSi (As := [.ref (ad 0 0), .int v, .int w, .int x, .ref (ad 0 2)]) (rest := []) (post := fun (r : Int32) (u : gAd) => okW oIS (f_X4_tell C N v w x) r ∧ ∀ i, u 0 i = ad 0 i) (B := fun u H => gW D (lwA s) u (oW (f_X4_tell C N v w x) (fun a => Wd G u (n_X4_tell C N v w x) (s_X4_tell C N v w x) M (oL o a.toInt64)) (Wd G u N C M o)) H) (mc := 3) (ms := 47) C0 hM9 (vx_cwSW 5 hts gL_law_L_tell rfl rfl rfl (by decide +kernel) ⟨Nat.le_of_ble_eq_true rfl, Nat.le_of_ble_eq_true rfl⟩) hK hE hL hNe hNc rfl rfl hl rfl (Nat.le_of_ble_eq_true rfl) dL_law_404 ⟨(by show 22 + k * 1173 + 3 ≤ 601024; omega), (by show 397 + k * 14243 + 47 ≤ 7293034; omega)⟩ hS (fun k9 u H1 locs1 hok hW hz hS => ?_)
  obtain ⟨hok, hu⟩ := hok
  have hq := q_tell hR (by omega) v w x
  obtain ⟨N1, C1, o1, hW, hR1, hth, hov⟩ := st_W (val := fun a => a.toInt64) hd_IS hok hq.1 hW hq.2 (fun E hE9 => (er_tell hE9).1)
  refine lv_istore (lv' := [(5, .int k9), (4, .int (nI (4 * k))), (0, .ref b), (1, .ref (ad 0 0)), (2, .ref (ad 0 1)), (3, .ref (ad 0 2))]) hx hb dL_law_407 hl (by decide) rfl (fun ls hl => ?_)
  have hl : lv_has ls 9 [(5, .int k9), (4, .int (nI (4 * k))), (0, .ref b), (1, .ref (u 0 0)), (2, .ref (u 0 1)), (3, .ref (u 0 2))] := by rw [hu 0, hu 1, hu 2]; exact hl
  refine lv_aload_n hx hb dL_law_409 rfl (lv_at hl 4 rfl) ?_
  refine lv_aload_n hx hb dL_law_410 rfl (lv_at hl 2 rfl) ?_
  refine lv_iload hx hb dL_law_411 (lv_at hl 1 rfl) ?_
  refine lv_iconst (v := 1) hx hb dL_law_413 (by decide) ?_
  refine lv_iadd hx hb dL_law_414 ?_
  rw [show nI (4 * k) + 1 = nI (4 * k + 1) from nI_add _ _]
  refine va_sld hx hb hX hbl hbA hS (vp_in_nI (show 4 * k + 1 < L by omega) (by omega)) dL_law_415 ?_
  rw [← hv_v]
  refine lv_aload_n hx hb dL_law_416 rfl (lv_at hl 2 rfl) ?_
  refine lv_iload hx hb dL_law_417 (lv_at hl 1 rfl) ?_
  refine lv_iconst (v := 2) hx hb dL_law_419 (by decide) ?_
  refine lv_iadd hx hb dL_law_420 ?_
  rw [show nI (4 * k) + 2 = nI (4 * k + 2) from nI_add _ _]
  refine va_sld hx hb hX hbl hbA hS (vp_in_nI (show 4 * k + 2 < L by omega) (by omega)) dL_law_421 ?_
  rw [← hv_w]
  refine lv_aload_n hx hb dL_law_422 rfl (lv_at hl 2 rfl) ?_
  refine lv_iload hx hb dL_law_423 (lv_at hl 1 rfl) ?_
  refine lv_iconst (v := 3) hx hb dL_law_425 (by decide) ?_
  refine lv_iadd hx hb dL_law_426 ?_
  rw [show nI (4 * k) + 3 = nI (4 * k + 3) from nI_add _ _]
  refine va_sld hx hb hX hbl hbA hS (vp_in_nI (show 4 * k + 3 < L by omega) (by omega)) dL_law_427 ?_
  rw [← hv_x]
  have hI := hR.im (by omega)
  refine g_wVi (As := [.int v, .int w, .int x]) (rest := []) (B := fun (_ : Unit) H => gW D (lwA s) u (Wd G u N1 C1 (s_X5_tell N M v w x) o1) H) (mc := 0) (ms := 0) C0 (c_X5_tell l D G (lwA s) u N1 C1 M o1 H1 hW N hI v w x) (cwV 3 hts gL_law_X5_tell rfl rfl rfl (by decide +kernel) ⟨Nat.le_of_ble_eq_true rfl, Nat.le_of_ble_eq_true rfl⟩) hK (va_recv hK (hW.p rfl) (ci := 6) (q0 := 0) rfl rfl) rfl hl rfl (Nat.le_of_ble_eq_true rfl) dL_law_428 ⟨(by show 22 + k * 1173 + 3 + 0 ≤ 601024; omega), (by show 397 + k * 14243 + 47 + 0 ≤ 7293034; omega)⟩ hS (fun r8 u8 H2 locs2 hr8 hW hz hS => ?_)
  replace hr8 : r8 = (f_X5_tell N M v w x) := hr8
  refine lv_istore (lv' := [(6, .int r8), (5, .int k9), (4, .int (nI (4 * k))), (0, .ref b), (1, .ref (u 0 0)), (2, .ref (u 0 1)), (3, .ref (u 0 2))]) hx hb dL_law_431 hl (by decide) rfl (fun ls hl => ?_)
  refine lv_aload_n hx hb dL_law_433 rfl (lv_at hl 5 rfl) ?_
  refine g_Vi (As := []) (rest := []) C0 (c_X5_thrown l D G (lwA s) u N1 C1 (s_X5_tell N M v w x) o1 H2 hW) (cwV 0 hts gL_law_X5_thrown rfl rfl rfl (by decide +kernel) ⟨Nat.le_of_ble_eq_true rfl, Nat.le_of_ble_eq_true rfl⟩) hK (va_recv hK (hW.p rfl) (ci := 6) (q0 := 0) rfl rfl) rfl hl rfl (Nat.le_of_ble_eq_true rfl) dL_law_434 ⟨(by show 22 + k * 1173 + 3 + 0 ≤ 601024; omega), (by show 397 + k * 14243 + 47 + 0 ≤ 7293034; omega)⟩ hS (fun th locs3 hth3 hS => ?_)
  replace hth3 : th = k9 := hth3.trans hth
  subst th
  refine lv_iload hx hb dL_law_437 (lv_at hl 1 rfl) ?_
  refine lv_icmp_eq (tgt := 444) hx hb dL_law_439 (by decide) (fun _ => ?_) (fun c9 => absurd rfl c9)
  refine lv_iload hx hb dL_law_444 (lv_at hl 1 rfl) ?_
  refine lv_if_ne (tgt := 461) hx hb dL_law_446 (by decide) (fun c9 => ?_) (fun c9 => ?_)
  · refine lv_goto (tgt := 1406) hx hb dL_law_461 (by decide) ?_
    refine W.widen (k := 22 + (k + 1) * 1173) (n := 397 + (k + 1) * 14243) (by omega) (by omega) ?_
    have hl : lv_has ls 9 [(4, .int (nI (4 * k))), (0, .ref b), (1, .ref (u 0 0)), (2, .ref (u 0 1)), (3, .ref (u 0 2))] := lv_sub hl [2, 3, 4, 5, 6] rfl
    rw [hu 0, hu 1, hu 2] at hl
    exact nx u N1 C1 (s_X5_tell N M v w x) o1 _ _ _ hW hR1 hu hS hl
  · refine lv_aload_n hx hb dL_law_449 rfl (lv_at hl 6 rfl) ?_
    refine lv_iconst (v := 0) hx hb dL_law_450 (by decide) ?_
    refine g_lald (ad := u) hx hb hK hW 1 (n := 1) (f := o1) rfl rfl (vp_in_nI (by decide : 0 < 1) (by decide)) dL_law_451 ?_
    have hv9 : o1 ((nI 0).toNatClampNeg) = (r8).toInt64 := by rw [hr8]; exact hov c9
    rw [show o1 ((0 : Int32).toNatClampNeg) = (r8).toInt64 from hv9]
    refine lv_iload hx hb dL_law_452 (lv_at hl 0 rfl) ?_
    refine lv_i2l (v := r8.toInt64) hx hb dL_law_454 rfl ?_
    refine W.lcmp hx hb dL_law_455 ?_
    refine lv_if_eq (tgt := 461) hx hb dL_law_456 (by decide) (fun _ => ?_) (fun c8 => absurd (lg_cmp_self _) c8)
    refine lv_goto (tgt := 1406) hx hb dL_law_461 (by decide) ?_
    refine W.widen (k := 22 + (k + 1) * 1173) (n := 397 + (k + 1) * 14243) (by omega) (by omega) ?_
    have hl : lv_has ls 9 [(4, .int (nI (4 * k))), (0, .ref b), (1, .ref (u 0 0)), (2, .ref (u 0 1)), (3, .ref (u 0 2))] := lv_sub hl [2, 3, 4, 5, 6] rfl
    rw [hu 0, hu 1, hu 2] at hl
    exact nx u N1 C1 (s_X5_tell N M v w x) o1 _ _ _ hW hR1 hu hS hl
set_option maxHeartbeats 4000000 in
set_option maxRecDepth 100000 in
theorem law_reserve {p : Program} {l : Launch} {e : Env} {s : State} {m : MethodId} {below : List Frame} {meth : Method} {c : Code} {b L : Nat} {xs : Nat → Int32} {D : va_G} {G : gG} {mi : Nat} (hLC : LC p l s m meth c b L xs D G mi) {k : Nat} (hk : 4 * k + 4 ≤ L) {ad : gAd} {N : gN} {C M : gT} {o : Nat → Int64} {H : Heap} {locs : List Loc} {ls : Array Slot} (hW : gW D (lwA s) ad (Wd G ad N C M o) H) (hR : Rel k N C M) (hS : va_S (lwA s) s.heap H locs) (hl : lv_has ls 9 [(4, .int (nI (4 * k))), (0, .ref b), (1, .ref (ad 0 0)), (2, .ref (ad 0 1)), (3, .ref (ad 0 2))]) (nx : ∀ (ad2 : gAd) (N2 : gN) (C2 M2 : gT) (o2 : Nat → Int64) (H2 : Heap) (locs2 : List Loc) (ls2 : Array Slot), gW D (lwA s) ad2 (Wd G ad2 N2 C2 M2 o2) H2 → Rel (k + 1) N2 C2 M2 → (∀ i, ad2 0 i = ad 0 i) → va_S (lwA s) s.heap H2 locs2 → lv_has ls2 9 [(4, .int (nI (4 * k))), (0, .ref b), (1, .ref (ad 0 0)), (2, .ref (ad 0 1)), (3, .ref (ad 0 2))] → W p l e room_1 s m #[Value.ref b] below meth c H2 locs2 (22 + (k + 1) * 1173) (397 + (k + 1) * 14243) (lw_Z below #[Value.ref b] s) (F0 m 1406 ls2 [])) : W p l e room_1 s m #[Value.ref b] below meth c H locs (22 + k * 1173) (397 + k * 14243) (lw_Z below #[Value.ref b] s) (F0 m 464 ls []) := by
  obtain ⟨hAt, hl0, hK, hE, hL, hNe, hNc, hL2⟩ := hLC
  obtain ⟨hx, hb, hrt, hml, hown, hts0, hX, hbl, hlocks, hgv⟩ := hAt
  have hown : s.vm.findClass RL = some m.cls := hown
  have hts : ∀ w ∈ wsL_law, w.before #[Value.ref b] s = true := fun w h => hts0 w (wsL_law_in w h)
  have C0 : CallFix p m c cL_law 9 s #[Value.ref b] wsL_law RL := ⟨hx, hb, hml, hown, hts⟩
  have hbA : ¬ lwA s b := Nat.not_le.mpr hbl
  have hA : ∀ q, H.size ≤ q → lwA s q := fun q h => Nat.le_trans hS.1 h
  have hk5 : k ≤ 511 := by omega
  obtain ⟨v, hv_v⟩ : ∃ y : Int32, y = (xs (nI (4 * k + 1)).toNatClampNeg) := ⟨_, rfl⟩
  obtain ⟨w, hv_w⟩ : ∃ y : Int32, y = (xs (nI (4 * k + 2)).toNatClampNeg) := ⟨_, rfl⟩
  refine lv_aload_n hx hb dL_law_464 rfl (lv_at hl 2 rfl) ?_
  refine lv_aload_n hx hb dL_law_465 rfl (lv_at hl 1 rfl) ?_
  refine lv_iload hx hb dL_law_466 (lv_at hl 0 rfl) ?_
  refine lv_iconst (v := 1) hx hb dL_law_468 (by decide) ?_
  refine lv_iadd hx hb dL_law_469 ?_
  rw [show nI (4 * k) + 1 = nI (4 * k + 1) from nI_add _ _]
  refine va_sld hx hb hX hbl hbA hS (vp_in_nI (show 4 * k + 1 < L by omega) (by omega)) dL_law_470 ?_
  rw [← hv_v]
  refine lv_aload_n hx hb dL_law_471 rfl (lv_at hl 1 rfl) ?_
  refine lv_iload hx hb dL_law_472 (lv_at hl 0 rfl) ?_
  refine lv_iconst (v := 2) hx hb dL_law_474 (by decide) ?_
  refine lv_iadd hx hb dL_law_475 ?_
  rw [show nI (4 * k) + 2 = nI (4 * k + 2) from nI_add _ _]
  refine va_sld hx hb hX hbl hbA hS (vp_in_nI (show 4 * k + 2 < L by omega) (by omega)) dL_law_476 ?_
  rw [← hv_w]
  refine lv_aload_n hx hb dL_law_477 rfl (lv_at hl 4 rfl) ?_
  have hM9 := c_L_reserve l D G (lwA s) ad N C M o H hW hl0 hR.ic mi v w
  refine g_ZSi (As := [.ref (ad 0 0), .int v, .int w, .ref (ad 0 2)]) (rest := []) (post := fun (r : Int32) (_ : Unit) => okW oIS (f_X4_reserve C N v w) r) (B := fun (_ : Unit) H => gW D (lwA s) ad (oW (f_X4_reserve C N v w) (fun a => Wd G ad N (s_X4_reserve C N v w) M (oL o a.toInt64)) (Wd G ad N C M o)) H) (mc := 1) (ms := 6) C0 hM9 (vx_cwSW 4 hts gL_law_L_reserve rfl rfl rfl (by decide +kernel) ⟨Nat.le_of_ble_eq_true rfl, Nat.le_of_ble_eq_true rfl⟩) hK hE hL hNe hNc rfl rfl hl rfl (Nat.le_of_ble_eq_true rfl) dL_law_478 ⟨(by show 22 + k * 1173 + 1 ≤ 601024; omega), (by show 397 + k * 14243 + 6 ≤ 7293034; omega)⟩ hS (fun k9 u H1 locs1 hok hW hz hS => ?_)
  have hq := q_reserve hR v w
  obtain ⟨N1, C1, o1, hW, hR1, hth, hov⟩ := st_W (val := fun a => a.toInt64) hd_IS hok hq.1 hW (hq.2.mono (Nat.le_succ k)) (fun E hE9 => ⟨rfl, (er_reserve hE9).1⟩)
  refine lv_istore (lv' := [(5, .int k9), (4, .int (nI (4 * k))), (0, .ref b), (1, .ref (ad 0 0)), (2, .ref (ad 0 1)), (3, .ref (ad 0 2))]) hx hb dL_law_481 hl (by decide) rfl (fun ls hl => ?_)
  refine lv_aload_n hx hb dL_law_483 rfl (lv_at hl 4 rfl) ?_
  refine lv_aload_n hx hb dL_law_484 rfl (lv_at hl 2 rfl) ?_
  refine lv_iload hx hb dL_law_485 (lv_at hl 1 rfl) ?_
  refine lv_iconst (v := 1) hx hb dL_law_487 (by decide) ?_
  refine lv_iadd hx hb dL_law_488 ?_
  rw [show nI (4 * k) + 1 = nI (4 * k + 1) from nI_add _ _]
  refine va_sld hx hb hX hbl hbA hS (vp_in_nI (show 4 * k + 1 < L by omega) (by omega)) dL_law_489 ?_
  rw [← hv_v]
  refine lv_aload_n hx hb dL_law_490 rfl (lv_at hl 2 rfl) ?_
  refine lv_iload hx hb dL_law_491 (lv_at hl 1 rfl) ?_
  refine lv_iconst (v := 2) hx hb dL_law_493 (by decide) ?_
  refine lv_iadd hx hb dL_law_494 ?_
  rw [show nI (4 * k) + 2 = nI (4 * k + 2) from nI_add _ _]
  refine va_sld hx hb hX hbl hbA hS (vp_in_nI (show 4 * k + 2 < L by omega) (by omega)) dL_law_495 ?_
  rw [← hv_w]
  have hI := hR.im (by omega)
  refine g_wVi (As := [.int v, .int w]) (rest := []) (B := fun (_ : Unit) H => gW D (lwA s) ad (Wd G ad N1 C1 (s_X5_reserve N M v w) o1) H) (mc := 0) (ms := 0) C0 (c_X5_reserve l D G (lwA s) ad N1 C1 M o1 H1 hW N hI v w) (cwV 2 hts gL_law_X5_reserve rfl rfl rfl (by decide +kernel) ⟨Nat.le_of_ble_eq_true rfl, Nat.le_of_ble_eq_true rfl⟩) hK (va_recv hK (hW.p rfl) (ci := 6) (q0 := 0) rfl rfl) rfl hl rfl (Nat.le_of_ble_eq_true rfl) dL_law_496 ⟨(by show 22 + k * 1173 + 1 + 0 ≤ 601024; omega), (by show 397 + k * 14243 + 6 + 0 ≤ 7293034; omega)⟩ hS (fun r8 u8 H2 locs2 hr8 hW hz hS => ?_)
  replace hr8 : r8 = (f_X5_reserve N M v w) := hr8
  refine lv_istore (lv' := [(6, .int r8), (5, .int k9), (4, .int (nI (4 * k))), (0, .ref b), (1, .ref (ad 0 0)), (2, .ref (ad 0 1)), (3, .ref (ad 0 2))]) hx hb dL_law_499 hl (by decide) rfl (fun ls hl => ?_)
  refine lv_aload_n hx hb dL_law_501 rfl (lv_at hl 5 rfl) ?_
  refine g_Vi (As := []) (rest := []) C0 (c_X5_thrown l D G (lwA s) ad N1 C1 (s_X5_reserve N M v w) o1 H2 hW) (cwV 0 hts gL_law_X5_thrown rfl rfl rfl (by decide +kernel) ⟨Nat.le_of_ble_eq_true rfl, Nat.le_of_ble_eq_true rfl⟩) hK (va_recv hK (hW.p rfl) (ci := 6) (q0 := 0) rfl rfl) rfl hl rfl (Nat.le_of_ble_eq_true rfl) dL_law_502 ⟨(by show 22 + k * 1173 + 1 + 0 ≤ 601024; omega), (by show 397 + k * 14243 + 6 + 0 ≤ 7293034; omega)⟩ hS (fun th locs3 hth3 hS => ?_)
  replace hth3 : th = k9 := hth3.trans hth
  subst th
  refine lv_iload hx hb dL_law_505 (lv_at hl 1 rfl) ?_
  refine lv_icmp_eq (tgt := 512) hx hb dL_law_507 (by decide) (fun _ => ?_) (fun c9 => absurd rfl c9)
  refine lv_iload hx hb dL_law_512 (lv_at hl 1 rfl) ?_
  refine lv_if_ne (tgt := 529) hx hb dL_law_514 (by decide) (fun c9 => ?_) (fun c9 => ?_)
  · refine lv_goto (tgt := 1406) hx hb dL_law_529 (by decide) ?_
    refine W.widen (k := 22 + (k + 1) * 1173) (n := 397 + (k + 1) * 14243) (by omega) (by omega) ?_
    have hl : lv_has ls 9 [(4, .int (nI (4 * k))), (0, .ref b), (1, .ref (ad 0 0)), (2, .ref (ad 0 1)), (3, .ref (ad 0 2))] := lv_sub hl [2, 3, 4, 5, 6] rfl
    exact nx ad N1 C1 (s_X5_reserve N M v w) o1 _ _ _ hW hR1 (fun _ => rfl) hS hl
  · refine lv_aload_n hx hb dL_law_517 rfl (lv_at hl 6 rfl) ?_
    refine lv_iconst (v := 0) hx hb dL_law_518 (by decide) ?_
    refine g_lald (ad := ad) hx hb hK hW 1 (n := 1) (f := o1) rfl rfl (vp_in_nI (by decide : 0 < 1) (by decide)) dL_law_519 ?_
    have hv9 : o1 ((nI 0).toNatClampNeg) = (r8).toInt64 := by rw [hr8]; exact hov c9
    rw [show o1 ((0 : Int32).toNatClampNeg) = (r8).toInt64 from hv9]
    refine lv_iload hx hb dL_law_520 (lv_at hl 0 rfl) ?_
    refine lv_i2l (v := r8.toInt64) hx hb dL_law_522 rfl ?_
    refine W.lcmp hx hb dL_law_523 ?_
    refine lv_if_eq (tgt := 529) hx hb dL_law_524 (by decide) (fun _ => ?_) (fun c8 => absurd (lg_cmp_self _) c8)
    refine lv_goto (tgt := 1406) hx hb dL_law_529 (by decide) ?_
    refine W.widen (k := 22 + (k + 1) * 1173) (n := 397 + (k + 1) * 14243) (by omega) (by omega) ?_
    have hl : lv_has ls 9 [(4, .int (nI (4 * k))), (0, .ref b), (1, .ref (ad 0 0)), (2, .ref (ad 0 1)), (3, .ref (ad 0 2))] := lv_sub hl [2, 3, 4, 5, 6] rfl
    exact nx ad N1 C1 (s_X5_reserve N M v w) o1 _ _ _ hW hR1 (fun _ => rfl) hS hl
set_option maxHeartbeats 4000000 in
set_option maxRecDepth 100000 in
theorem law_pass {p : Program} {l : Launch} {e : Env} {s : State} {m : MethodId} {below : List Frame} {meth : Method} {c : Code} {b L : Nat} {xs : Nat → Int32} {D : va_G} {G : gG} {mi : Nat} (hLC : LC p l s m meth c b L xs D G mi) {k : Nat} (hk : 4 * k + 4 ≤ L) {ad : gAd} {N : gN} {C M : gT} {o : Nat → Int64} {H : Heap} {locs : List Loc} {ls : Array Slot} (hW : gW D (lwA s) ad (Wd G ad N C M o) H) (hR : Rel k N C M) (hS : va_S (lwA s) s.heap H locs) (hl : lv_has ls 9 [(4, .int (nI (4 * k))), (0, .ref b), (1, .ref (ad 0 0)), (2, .ref (ad 0 1)), (3, .ref (ad 0 2))]) (nx : ∀ (ad2 : gAd) (N2 : gN) (C2 M2 : gT) (o2 : Nat → Int64) (H2 : Heap) (locs2 : List Loc) (ls2 : Array Slot), gW D (lwA s) ad2 (Wd G ad2 N2 C2 M2 o2) H2 → Rel (k + 1) N2 C2 M2 → (∀ i, ad2 0 i = ad 0 i) → va_S (lwA s) s.heap H2 locs2 → lv_has ls2 9 [(4, .int (nI (4 * k))), (0, .ref b), (1, .ref (ad 0 0)), (2, .ref (ad 0 1)), (3, .ref (ad 0 2))] → W p l e room_1 s m #[Value.ref b] below meth c H2 locs2 (22 + (k + 1) * 1173) (397 + (k + 1) * 14243) (lw_Z below #[Value.ref b] s) (F0 m 1406 ls2 [])) : W p l e room_1 s m #[Value.ref b] below meth c H locs (22 + k * 1173) (397 + k * 14243) (lw_Z below #[Value.ref b] s) (F0 m 532 ls []) := by
  obtain ⟨hAt, hl0, hK, hE, hL, hNe, hNc, hL2⟩ := hLC
  obtain ⟨hx, hb, hrt, hml, hown, hts0, hX, hbl, hlocks, hgv⟩ := hAt
  have hown : s.vm.findClass RL = some m.cls := hown
  have hts : ∀ w ∈ wsL_law, w.before #[Value.ref b] s = true := fun w h => hts0 w (wsL_law_in w h)
  have C0 : CallFix p m c cL_law 9 s #[Value.ref b] wsL_law RL := ⟨hx, hb, hml, hown, hts⟩
  have hbA : ¬ lwA s b := Nat.not_le.mpr hbl
  have hA : ∀ q, H.size ≤ q → lwA s q := fun q h => Nat.le_trans hS.1 h
  have hk5 : k ≤ 511 := by omega
  obtain ⟨v, hv_v⟩ : ∃ y : Int32, y = (xs (nI (4 * k + 1)).toNatClampNeg) := ⟨_, rfl⟩
  refine lv_aload_n hx hb dL_law_532 rfl (lv_at hl 2 rfl) ?_
  refine lv_aload_n hx hb dL_law_533 rfl (lv_at hl 1 rfl) ?_
  refine lv_iload hx hb dL_law_534 (lv_at hl 0 rfl) ?_
  refine lv_iconst (v := 1) hx hb dL_law_536 (by decide) ?_
  refine lv_iadd hx hb dL_law_537 ?_
  rw [show nI (4 * k) + 1 = nI (4 * k + 1) from nI_add _ _]
  refine va_sld hx hb hX hbl hbA hS (vp_in_nI (show 4 * k + 1 < L by omega) (by omega)) dL_law_538 ?_
  rw [← hv_v]
  refine lv_aload_n hx hb dL_law_539 rfl (lv_at hl 4 rfl) ?_
  have hM9 := c_L_pass l D G (lwA s) ad N C M o H hW hl0 hR.ic mi v
  refine g_ZSi (As := [.ref (ad 0 0), .int v, .ref (ad 0 2)]) (rest := []) (post := fun (r : Int32) (_ : Unit) => okW oIS (f_X4_pass C N v) r) (B := fun (_ : Unit) H => gW D (lwA s) ad (oW (f_X4_pass C N v) (fun a => Wd G ad N (s_X4_pass C N v) M (oL o (if a = 0 then (0 : Int64) else 1))) (Wd G ad N C M o)) H) (mc := 1) (ms := 6) C0 hM9 (vx_cwSW 3 hts gL_law_L_pass rfl rfl rfl (by decide +kernel) ⟨Nat.le_of_ble_eq_true rfl, Nat.le_of_ble_eq_true rfl⟩) hK hE hL hNe hNc rfl rfl hl rfl (Nat.le_of_ble_eq_true rfl) dL_law_540 ⟨(by show 22 + k * 1173 + 1 ≤ 601024; omega), (by show 397 + k * 14243 + 6 ≤ 7293034; omega)⟩ hS (fun k9 u H1 locs1 hok hW hz hS => ?_)
  have hq := q_pass hR v
  obtain ⟨N1, C1, o1, hW, hR1, hth, hov⟩ := st_W (val := fun a => (if a = 0 then (0 : Int64) else 1)) hd_IS hok hq.1 hW (hq.2.mono (Nat.le_succ k)) (fun E hE9 => ⟨rfl, (er_pass hE9).1⟩)
  refine lv_istore (lv' := [(5, .int k9), (4, .int (nI (4 * k))), (0, .ref b), (1, .ref (ad 0 0)), (2, .ref (ad 0 1)), (3, .ref (ad 0 2))]) hx hb dL_law_543 hl (by decide) rfl (fun ls hl => ?_)
  refine lv_aload_n hx hb dL_law_545 rfl (lv_at hl 4 rfl) ?_
  refine lv_aload_n hx hb dL_law_546 rfl (lv_at hl 2 rfl) ?_
  refine lv_iload hx hb dL_law_547 (lv_at hl 1 rfl) ?_
  refine lv_iconst (v := 1) hx hb dL_law_549 (by decide) ?_
  refine lv_iadd hx hb dL_law_550 ?_
  rw [show nI (4 * k) + 1 = nI (4 * k + 1) from nI_add _ _]
  refine va_sld hx hb hX hbl hbA hS (vp_in_nI (show 4 * k + 1 < L by omega) (by omega)) dL_law_551 ?_
  rw [← hv_v]
  have hI := hR.im (by omega)
  refine g_wVi (As := [.int v]) (rest := []) (B := fun (_ : Unit) H => gW D (lwA s) ad (Wd G ad N1 C1 (s_X5_pass N M v) o1) H) (mc := 0) (ms := 0) C0 (c_X5_pass l D G (lwA s) ad N1 C1 M o1 H1 hW N hI v) (cwV 1 hts gL_law_X5_pass rfl rfl rfl (by decide +kernel) ⟨Nat.le_of_ble_eq_true rfl, Nat.le_of_ble_eq_true rfl⟩) hK (va_recv hK (hW.p rfl) (ci := 6) (q0 := 0) rfl rfl) rfl hl rfl (Nat.le_of_ble_eq_true rfl) dL_law_552 ⟨(by show 22 + k * 1173 + 1 + 0 ≤ 601024; omega), (by show 397 + k * 14243 + 6 + 0 ≤ 7293034; omega)⟩ hS (fun r8 u8 H2 locs2 hr8 hW hz hS => ?_)
  replace hr8 : r8 = (f_X5_pass N M v) := hr8
  refine lv_istore (lv' := [(6, .int r8), (5, .int k9), (4, .int (nI (4 * k))), (0, .ref b), (1, .ref (ad 0 0)), (2, .ref (ad 0 1)), (3, .ref (ad 0 2))]) hx hb dL_law_555 hl (by decide) rfl (fun ls hl => ?_)
  refine lv_aload_n hx hb dL_law_557 rfl (lv_at hl 5 rfl) ?_
  refine g_Vi (As := []) (rest := []) C0 (c_X5_thrown l D G (lwA s) ad N1 C1 (s_X5_pass N M v) o1 H2 hW) (cwV 0 hts gL_law_X5_thrown rfl rfl rfl (by decide +kernel) ⟨Nat.le_of_ble_eq_true rfl, Nat.le_of_ble_eq_true rfl⟩) hK (va_recv hK (hW.p rfl) (ci := 6) (q0 := 0) rfl rfl) rfl hl rfl (Nat.le_of_ble_eq_true rfl) dL_law_558 ⟨(by show 22 + k * 1173 + 1 + 0 ≤ 601024; omega), (by show 397 + k * 14243 + 6 + 0 ≤ 7293034; omega)⟩ hS (fun th locs3 hth3 hS => ?_)
  replace hth3 : th = k9 := hth3.trans hth
  subst th
  refine lv_iload hx hb dL_law_561 (lv_at hl 1 rfl) ?_
  refine lv_icmp_eq (tgt := 568) hx hb dL_law_563 (by decide) (fun _ => ?_) (fun c9 => absurd rfl c9)
  refine lv_iload hx hb dL_law_568 (lv_at hl 1 rfl) ?_
  refine lv_if_ne (tgt := 592) hx hb dL_law_570 (by decide) (fun c9 => ?_) (fun c9 => ?_)
  · refine lv_goto (tgt := 1406) hx hb dL_law_592 (by decide) ?_
    refine W.widen (k := 22 + (k + 1) * 1173) (n := 397 + (k + 1) * 14243) (by omega) (by omega) ?_
    have hl : lv_has ls 9 [(4, .int (nI (4 * k))), (0, .ref b), (1, .ref (ad 0 0)), (2, .ref (ad 0 1)), (3, .ref (ad 0 2))] := lv_sub hl [2, 3, 4, 5, 6] rfl
    exact nx ad N1 C1 (s_X5_pass N M v) o1 _ _ _ hW hR1 (fun _ => rfl) hS hl
  · refine lv_aload_n hx hb dL_law_573 rfl (lv_at hl 6 rfl) ?_
    refine lv_iconst (v := 0) hx hb dL_law_574 (by decide) ?_
    refine g_lald (ad := ad) hx hb hK hW 1 (n := 1) (f := o1) rfl rfl (vp_in_nI (by decide : 0 < 1) (by decide)) dL_law_575 ?_
    have hv9 : o1 ((nI 0).toNatClampNeg) = (if r8 = 0 then (0 : Int64) else 1) := by rw [hr8]; exact hov c9
    rw [show o1 ((0 : Int32).toNatClampNeg) = (if r8 = 0 then (0 : Int64) else 1) from hv9]
    refine lv_iload hx hb dL_law_576 (lv_at hl 0 rfl) ?_
    refine lv_if_eq (tgt := 585) hx hb dL_law_578 (by decide) (fun c7 => ?_) (fun c7 => ?_)
    · rw [if_pos c7]
      refine lv_lconst (v := 0) hx hb dL_law_585 (by decide) ?_
      refine W.lcmp hx hb dL_law_586 ?_
      refine lv_if_eq (tgt := 592) hx hb dL_law_587 (by decide) (fun _ => ?_) (fun c8 => absurd (lg_cmp_self _) c8)
      refine lv_goto (tgt := 1406) hx hb dL_law_592 (by decide) ?_
      refine W.widen (k := 22 + (k + 1) * 1173) (n := 397 + (k + 1) * 14243) (by omega) (by omega) ?_
      have hl : lv_has ls 9 [(4, .int (nI (4 * k))), (0, .ref b), (1, .ref (ad 0 0)), (2, .ref (ad 0 1)), (3, .ref (ad 0 2))] := lv_sub hl [2, 3, 4, 5, 6] rfl
      exact nx ad N1 C1 (s_X5_pass N M v) o1 _ _ _ hW hR1 (fun _ => rfl) hS hl
    · rw [if_neg c7]
      refine lv_lconst (v := 1) hx hb dL_law_581 (by decide) ?_
      refine lv_goto (tgt := 586) hx hb dL_law_582 (by decide) ?_
      refine W.lcmp hx hb dL_law_586 ?_
      refine lv_if_eq (tgt := 592) hx hb dL_law_587 (by decide) (fun _ => ?_) (fun c8 => absurd (lg_cmp_self _) c8)
      refine lv_goto (tgt := 1406) hx hb dL_law_592 (by decide) ?_
      refine W.widen (k := 22 + (k + 1) * 1173) (n := 397 + (k + 1) * 14243) (by omega) (by omega) ?_
      have hl : lv_has ls 9 [(4, .int (nI (4 * k))), (0, .ref b), (1, .ref (ad 0 0)), (2, .ref (ad 0 1)), (3, .ref (ad 0 2))] := lv_sub hl [2, 3, 4, 5, 6] rfl
      exact nx ad N1 C1 (s_X5_pass N M v) o1 _ _ _ hW hR1 (fun _ => rfl) hS hl
set_option maxHeartbeats 4000000 in
set_option maxRecDepth 100000 in
theorem law_send {p : Program} {l : Launch} {e : Env} {s : State} {m : MethodId} {below : List Frame} {meth : Method} {c : Code} {b L : Nat} {xs : Nat → Int32} {D : va_G} {G : gG} {mi : Nat} (hLC : LC p l s m meth c b L xs D G mi) {k : Nat} (hk : 4 * k + 4 ≤ L) {ad : gAd} {N : gN} {C M : gT} {o : Nat → Int64} {H : Heap} {locs : List Loc} {ls : Array Slot} (hW : gW D (lwA s) ad (Wd G ad N C M o) H) (hR : Rel k N C M) (hS : va_S (lwA s) s.heap H locs) (hl : lv_has ls 9 [(4, .int (nI (4 * k))), (0, .ref b), (1, .ref (ad 0 0)), (2, .ref (ad 0 1)), (3, .ref (ad 0 2))]) (nx : ∀ (ad2 : gAd) (N2 : gN) (C2 M2 : gT) (o2 : Nat → Int64) (H2 : Heap) (locs2 : List Loc) (ls2 : Array Slot), gW D (lwA s) ad2 (Wd G ad2 N2 C2 M2 o2) H2 → Rel (k + 1) N2 C2 M2 → (∀ i, ad2 0 i = ad 0 i) → va_S (lwA s) s.heap H2 locs2 → lv_has ls2 9 [(4, .int (nI (4 * k))), (0, .ref b), (1, .ref (ad 0 0)), (2, .ref (ad 0 1)), (3, .ref (ad 0 2))] → W p l e room_1 s m #[Value.ref b] below meth c H2 locs2 (22 + (k + 1) * 1173) (397 + (k + 1) * 14243) (lw_Z below #[Value.ref b] s) (F0 m 1406 ls2 [])) : W p l e room_1 s m #[Value.ref b] below meth c H locs (22 + k * 1173) (397 + k * 14243) (lw_Z below #[Value.ref b] s) (F0 m 595 ls []) := by
  obtain ⟨hAt, hl0, hK, hE, hL, hNe, hNc, hL2⟩ := hLC
  obtain ⟨hx, hb, hrt, hml, hown, hts0, hX, hbl, hlocks, hgv⟩ := hAt
  have hown : s.vm.findClass RL = some m.cls := hown
  have hts : ∀ w ∈ wsL_law, w.before #[Value.ref b] s = true := fun w h => hts0 w (wsL_law_in w h)
  have C0 : CallFix p m c cL_law 9 s #[Value.ref b] wsL_law RL := ⟨hx, hb, hml, hown, hts⟩
  have hbA : ¬ lwA s b := Nat.not_le.mpr hbl
  have hA : ∀ q, H.size ≤ q → lwA s q := fun q h => Nat.le_trans hS.1 h
  have hk5 : k ≤ 511 := by omega
  obtain ⟨v, hv_v⟩ : ∃ y : Int32, y = (xs (nI (4 * k + 1)).toNatClampNeg) := ⟨_, rfl⟩
  refine lv_aload_n hx hb dL_law_595 rfl (lv_at hl 2 rfl) ?_
  refine lv_aload_n hx hb dL_law_596 rfl (lv_at hl 1 rfl) ?_
  refine lv_iload hx hb dL_law_597 (lv_at hl 0 rfl) ?_
  refine lv_iconst (v := 1) hx hb dL_law_599 (by decide) ?_
  refine lv_iadd hx hb dL_law_600 ?_
  rw [show nI (4 * k) + 1 = nI (4 * k + 1) from nI_add _ _]
  refine va_sld hx hb hX hbl hbA hS (vp_in_nI (show 4 * k + 1 < L by omega) (by omega)) dL_law_601 ?_
  rw [← hv_v]
  refine lv_aload_n hx hb dL_law_602 rfl (lv_at hl 4 rfl) ?_
  have hM9 := c_L_send l D G (lwA s) ad N C M o H hW hl0 hR.ic mi v
  refine g_ZSi (As := [.ref (ad 0 0), .int v, .ref (ad 0 2)]) (rest := []) (post := fun (r : Int32) (_ : Unit) => okW oIS (f_X4_send C N v) r) (B := fun (_ : Unit) H => gW D (lwA s) ad (oW (f_X4_send C N v) (fun a => Wd G ad N (s_X4_send C N v) M (oL o a.toInt64)) (Wd G ad N C M o)) H) (mc := 1) (ms := 6) C0 hM9 (vx_cwSW 3 hts gL_law_L_send rfl rfl rfl (by decide +kernel) ⟨Nat.le_of_ble_eq_true rfl, Nat.le_of_ble_eq_true rfl⟩) hK hE hL hNe hNc rfl rfl hl rfl (Nat.le_of_ble_eq_true rfl) dL_law_603 ⟨(by show 22 + k * 1173 + 1 ≤ 601024; omega), (by show 397 + k * 14243 + 6 ≤ 7293034; omega)⟩ hS (fun k9 u H1 locs1 hok hW hz hS => ?_)
  have hq := q_send hR v
  obtain ⟨N1, C1, o1, hW, hR1, hth, hov⟩ := st_W (val := fun a => a.toInt64) hd_IS hok hq.1 hW (hq.2.mono (Nat.le_succ k)) (fun E hE9 => ⟨rfl, (er_send hE9).1⟩)
  refine lv_istore (lv' := [(5, .int k9), (4, .int (nI (4 * k))), (0, .ref b), (1, .ref (ad 0 0)), (2, .ref (ad 0 1)), (3, .ref (ad 0 2))]) hx hb dL_law_606 hl (by decide) rfl (fun ls hl => ?_)
  refine lv_aload_n hx hb dL_law_608 rfl (lv_at hl 4 rfl) ?_
  refine lv_aload_n hx hb dL_law_609 rfl (lv_at hl 2 rfl) ?_
  refine lv_iload hx hb dL_law_610 (lv_at hl 1 rfl) ?_
  refine lv_iconst (v := 1) hx hb dL_law_612 (by decide) ?_
  refine lv_iadd hx hb dL_law_613 ?_
  rw [show nI (4 * k) + 1 = nI (4 * k + 1) from nI_add _ _]
  refine va_sld hx hb hX hbl hbA hS (vp_in_nI (show 4 * k + 1 < L by omega) (by omega)) dL_law_614 ?_
  rw [← hv_v]
  have hI := hR.im (by omega)
  refine g_wVi (As := [.int v]) (rest := []) (B := fun (_ : Unit) H => gW D (lwA s) ad (Wd G ad N1 C1 (s_X5_send N M v) o1) H) (mc := 0) (ms := 0) C0 (c_X5_send l D G (lwA s) ad N1 C1 M o1 H1 hW N hI v) (cwV 1 hts gL_law_X5_send rfl rfl rfl (by decide +kernel) ⟨Nat.le_of_ble_eq_true rfl, Nat.le_of_ble_eq_true rfl⟩) hK (va_recv hK (hW.p rfl) (ci := 6) (q0 := 0) rfl rfl) rfl hl rfl (Nat.le_of_ble_eq_true rfl) dL_law_615 ⟨(by show 22 + k * 1173 + 1 + 0 ≤ 601024; omega), (by show 397 + k * 14243 + 6 + 0 ≤ 7293034; omega)⟩ hS (fun r8 u8 H2 locs2 hr8 hW hz hS => ?_)
  replace hr8 : r8 = (f_X5_send N M v) := hr8
  refine lv_istore (lv' := [(6, .int r8), (5, .int k9), (4, .int (nI (4 * k))), (0, .ref b), (1, .ref (ad 0 0)), (2, .ref (ad 0 1)), (3, .ref (ad 0 2))]) hx hb dL_law_618 hl (by decide) rfl (fun ls hl => ?_)
  refine lv_aload_n hx hb dL_law_620 rfl (lv_at hl 5 rfl) ?_
  refine g_Vi (As := []) (rest := []) C0 (c_X5_thrown l D G (lwA s) ad N1 C1 (s_X5_send N M v) o1 H2 hW) (cwV 0 hts gL_law_X5_thrown rfl rfl rfl (by decide +kernel) ⟨Nat.le_of_ble_eq_true rfl, Nat.le_of_ble_eq_true rfl⟩) hK (va_recv hK (hW.p rfl) (ci := 6) (q0 := 0) rfl rfl) rfl hl rfl (Nat.le_of_ble_eq_true rfl) dL_law_621 ⟨(by show 22 + k * 1173 + 1 + 0 ≤ 601024; omega), (by show 397 + k * 14243 + 6 + 0 ≤ 7293034; omega)⟩ hS (fun th locs3 hth3 hS => ?_)
  replace hth3 : th = k9 := hth3.trans hth
  subst th
  refine lv_iload hx hb dL_law_624 (lv_at hl 1 rfl) ?_
  refine lv_icmp_eq (tgt := 631) hx hb dL_law_626 (by decide) (fun _ => ?_) (fun c9 => absurd rfl c9)
  refine lv_iload hx hb dL_law_631 (lv_at hl 1 rfl) ?_
  refine lv_if_ne (tgt := 648) hx hb dL_law_633 (by decide) (fun c9 => ?_) (fun c9 => ?_)
  · refine lv_goto (tgt := 1406) hx hb dL_law_648 (by decide) ?_
    refine W.widen (k := 22 + (k + 1) * 1173) (n := 397 + (k + 1) * 14243) (by omega) (by omega) ?_
    have hl : lv_has ls 9 [(4, .int (nI (4 * k))), (0, .ref b), (1, .ref (ad 0 0)), (2, .ref (ad 0 1)), (3, .ref (ad 0 2))] := lv_sub hl [2, 3, 4, 5, 6] rfl
    exact nx ad N1 C1 (s_X5_send N M v) o1 _ _ _ hW hR1 (fun _ => rfl) hS hl
  · refine lv_aload_n hx hb dL_law_636 rfl (lv_at hl 6 rfl) ?_
    refine lv_iconst (v := 0) hx hb dL_law_637 (by decide) ?_
    refine g_lald (ad := ad) hx hb hK hW 1 (n := 1) (f := o1) rfl rfl (vp_in_nI (by decide : 0 < 1) (by decide)) dL_law_638 ?_
    have hv9 : o1 ((nI 0).toNatClampNeg) = (r8).toInt64 := by rw [hr8]; exact hov c9
    rw [show o1 ((0 : Int32).toNatClampNeg) = (r8).toInt64 from hv9]
    refine lv_iload hx hb dL_law_639 (lv_at hl 0 rfl) ?_
    refine lv_i2l (v := r8.toInt64) hx hb dL_law_641 rfl ?_
    refine W.lcmp hx hb dL_law_642 ?_
    refine lv_if_eq (tgt := 648) hx hb dL_law_643 (by decide) (fun _ => ?_) (fun c8 => absurd (lg_cmp_self _) c8)
    refine lv_goto (tgt := 1406) hx hb dL_law_648 (by decide) ?_
    refine W.widen (k := 22 + (k + 1) * 1173) (n := 397 + (k + 1) * 14243) (by omega) (by omega) ?_
    have hl : lv_has ls 9 [(4, .int (nI (4 * k))), (0, .ref b), (1, .ref (ad 0 0)), (2, .ref (ad 0 1)), (3, .ref (ad 0 2))] := lv_sub hl [2, 3, 4, 5, 6] rfl
    exact nx ad N1 C1 (s_X5_send N M v) o1 _ _ _ hW hR1 (fun _ => rfl) hS hl
set_option maxHeartbeats 4000000 in
set_option maxRecDepth 100000 in
theorem law_watch {p : Program} {l : Launch} {e : Env} {s : State} {m : MethodId} {below : List Frame} {meth : Method} {c : Code} {b L : Nat} {xs : Nat → Int32} {D : va_G} {G : gG} {mi : Nat} (hLC : LC p l s m meth c b L xs D G mi) {k : Nat} (hk : 4 * k + 4 ≤ L) {ad : gAd} {N : gN} {C M : gT} {o : Nat → Int64} {H : Heap} {locs : List Loc} {ls : Array Slot} (hW : gW D (lwA s) ad (Wd G ad N C M o) H) (hR : Rel k N C M) (hS : va_S (lwA s) s.heap H locs) (hl : lv_has ls 9 [(4, .int (nI (4 * k))), (0, .ref b), (1, .ref (ad 0 0)), (2, .ref (ad 0 1)), (3, .ref (ad 0 2))]) (nx : ∀ (ad2 : gAd) (N2 : gN) (C2 M2 : gT) (o2 : Nat → Int64) (H2 : Heap) (locs2 : List Loc) (ls2 : Array Slot), gW D (lwA s) ad2 (Wd G ad2 N2 C2 M2 o2) H2 → Rel (k + 1) N2 C2 M2 → (∀ i, ad2 0 i = ad 0 i) → va_S (lwA s) s.heap H2 locs2 → lv_has ls2 9 [(4, .int (nI (4 * k))), (0, .ref b), (1, .ref (ad 0 0)), (2, .ref (ad 0 1)), (3, .ref (ad 0 2))] → W p l e room_1 s m #[Value.ref b] below meth c H2 locs2 (22 + (k + 1) * 1173) (397 + (k + 1) * 14243) (lw_Z below #[Value.ref b] s) (F0 m 1406 ls2 [])) : W p l e room_1 s m #[Value.ref b] below meth c H locs (22 + k * 1173) (397 + k * 14243) (lw_Z below #[Value.ref b] s) (F0 m 651 ls []) := by
  obtain ⟨hAt, hl0, hK, hE, hL, hNe, hNc, hL2⟩ := hLC
  obtain ⟨hx, hb, hrt, hml, hown, hts0, hX, hbl, hlocks, hgv⟩ := hAt
  have hown : s.vm.findClass RL = some m.cls := hown
  have hts : ∀ w ∈ wsL_law, w.before #[Value.ref b] s = true := fun w h => hts0 w (wsL_law_in w h)
  have C0 : CallFix p m c cL_law 9 s #[Value.ref b] wsL_law RL := ⟨hx, hb, hml, hown, hts⟩
  have hbA : ¬ lwA s b := Nat.not_le.mpr hbl
  have hA : ∀ q, H.size ≤ q → lwA s q := fun q h => Nat.le_trans hS.1 h
  have hk5 : k ≤ 511 := by omega
  obtain ⟨v, hv_v⟩ : ∃ y : Int32, y = (xs (nI (4 * k + 1)).toNatClampNeg) := ⟨_, rfl⟩
  refine lv_aload_n hx hb dL_law_651 rfl (lv_at hl 2 rfl) ?_
  refine lv_aload_n hx hb dL_law_652 rfl (lv_at hl 1 rfl) ?_
  refine lv_iload hx hb dL_law_653 (lv_at hl 0 rfl) ?_
  refine lv_iconst (v := 1) hx hb dL_law_655 (by decide) ?_
  refine lv_iadd hx hb dL_law_656 ?_
  rw [show nI (4 * k) + 1 = nI (4 * k + 1) from nI_add _ _]
  refine va_sld hx hb hX hbl hbA hS (vp_in_nI (show 4 * k + 1 < L by omega) (by omega)) dL_law_657 ?_
  rw [← hv_v]
  refine lv_aload_n hx hb dL_law_658 rfl (lv_at hl 4 rfl) ?_
  have hM9 := c_L_watch l D G (lwA s) ad N C M o H hW hl0 hR.ic mi v
  refine g_ZSi (As := [.ref (ad 0 0), .int v, .ref (ad 0 2)]) (rest := []) (post := fun (r : Int32) (_ : Unit) => okW oA (f_X4_watch C N v) r) (B := fun (_ : Unit) H => gW D (lwA s) ad (oW (f_X4_watch C N v) (fun a => Wd G ad N (s_X4_watch C N v) M (oL o a.toInt64)) (Wd G ad N C M o)) H) (mc := 1) (ms := 6) C0 hM9 (vx_cwSW 3 hts gL_law_L_watch rfl rfl rfl (by decide +kernel) ⟨Nat.le_of_ble_eq_true rfl, Nat.le_of_ble_eq_true rfl⟩) hK hE hL hNe hNc rfl rfl hl rfl (Nat.le_of_ble_eq_true rfl) dL_law_659 ⟨(by show 22 + k * 1173 + 1 ≤ 601024; omega), (by show 397 + k * 14243 + 6 ≤ 7293034; omega)⟩ hS (fun k9 u H1 locs1 hok hW hz hS => ?_)
  have hq := q_watch hR v
  obtain ⟨N1, C1, o1, hW, hR1, hth, hov⟩ := st_W (val := fun a => a.toInt64) hd_A hok hq.1 hW (hq.2.mono (Nat.le_succ k)) (fun E hE9 => ⟨rfl, (er_watch hE9).1⟩)
  refine lv_istore (lv' := [(5, .int k9), (4, .int (nI (4 * k))), (0, .ref b), (1, .ref (ad 0 0)), (2, .ref (ad 0 1)), (3, .ref (ad 0 2))]) hx hb dL_law_662 hl (by decide) rfl (fun ls hl => ?_)
  refine lv_aload_n hx hb dL_law_664 rfl (lv_at hl 4 rfl) ?_
  refine lv_aload_n hx hb dL_law_665 rfl (lv_at hl 2 rfl) ?_
  refine lv_iload hx hb dL_law_666 (lv_at hl 1 rfl) ?_
  refine lv_iconst (v := 1) hx hb dL_law_668 (by decide) ?_
  refine lv_iadd hx hb dL_law_669 ?_
  rw [show nI (4 * k) + 1 = nI (4 * k + 1) from nI_add _ _]
  refine va_sld hx hb hX hbl hbA hS (vp_in_nI (show 4 * k + 1 < L by omega) (by omega)) dL_law_670 ?_
  rw [← hv_v]
  have hI := hR.im (by omega)
  refine g_wVi (As := [.int v]) (rest := []) (B := fun (_ : Unit) H => gW D (lwA s) ad (Wd G ad N1 C1 (s_X5_watch N M v) o1) H) (mc := 0) (ms := 0) C0 (c_X5_watch l D G (lwA s) ad N1 C1 M o1 H1 hW N hI v) (cwV 1 hts gL_law_X5_watch rfl rfl rfl (by decide +kernel) ⟨Nat.le_of_ble_eq_true rfl, Nat.le_of_ble_eq_true rfl⟩) hK (va_recv hK (hW.p rfl) (ci := 6) (q0 := 0) rfl rfl) rfl hl rfl (Nat.le_of_ble_eq_true rfl) dL_law_671 ⟨(by show 22 + k * 1173 + 1 + 0 ≤ 601024; omega), (by show 397 + k * 14243 + 6 + 0 ≤ 7293034; omega)⟩ hS (fun r8 u8 H2 locs2 hr8 hW hz hS => ?_)
  replace hr8 : r8 = (f_X5_watch N M v) := hr8
  refine lv_istore (lv' := [(6, .int r8), (5, .int k9), (4, .int (nI (4 * k))), (0, .ref b), (1, .ref (ad 0 0)), (2, .ref (ad 0 1)), (3, .ref (ad 0 2))]) hx hb dL_law_674 hl (by decide) rfl (fun ls hl => ?_)
  refine lv_aload_n hx hb dL_law_676 rfl (lv_at hl 5 rfl) ?_
  refine g_Vi (As := []) (rest := []) C0 (c_X5_thrown l D G (lwA s) ad N1 C1 (s_X5_watch N M v) o1 H2 hW) (cwV 0 hts gL_law_X5_thrown rfl rfl rfl (by decide +kernel) ⟨Nat.le_of_ble_eq_true rfl, Nat.le_of_ble_eq_true rfl⟩) hK (va_recv hK (hW.p rfl) (ci := 6) (q0 := 0) rfl rfl) rfl hl rfl (Nat.le_of_ble_eq_true rfl) dL_law_677 ⟨(by show 22 + k * 1173 + 1 + 0 ≤ 601024; omega), (by show 397 + k * 14243 + 6 + 0 ≤ 7293034; omega)⟩ hS (fun th locs3 hth3 hS => ?_)
  replace hth3 : th = k9 := hth3.trans hth
  subst th
  refine lv_iload hx hb dL_law_680 (lv_at hl 1 rfl) ?_
  refine lv_icmp_eq (tgt := 687) hx hb dL_law_682 (by decide) (fun _ => ?_) (fun c9 => absurd rfl c9)
  refine lv_iload hx hb dL_law_687 (lv_at hl 1 rfl) ?_
  refine lv_if_ne (tgt := 704) hx hb dL_law_689 (by decide) (fun c9 => ?_) (fun c9 => ?_)
  · refine lv_goto (tgt := 1406) hx hb dL_law_704 (by decide) ?_
    refine W.widen (k := 22 + (k + 1) * 1173) (n := 397 + (k + 1) * 14243) (by omega) (by omega) ?_
    have hl : lv_has ls 9 [(4, .int (nI (4 * k))), (0, .ref b), (1, .ref (ad 0 0)), (2, .ref (ad 0 1)), (3, .ref (ad 0 2))] := lv_sub hl [2, 3, 4, 5, 6] rfl
    exact nx ad N1 C1 (s_X5_watch N M v) o1 _ _ _ hW hR1 (fun _ => rfl) hS hl
  · refine lv_aload_n hx hb dL_law_692 rfl (lv_at hl 6 rfl) ?_
    refine lv_iconst (v := 0) hx hb dL_law_693 (by decide) ?_
    refine g_lald (ad := ad) hx hb hK hW 1 (n := 1) (f := o1) rfl rfl (vp_in_nI (by decide : 0 < 1) (by decide)) dL_law_694 ?_
    have hv9 : o1 ((nI 0).toNatClampNeg) = (r8).toInt64 := by rw [hr8]; exact hov c9
    rw [show o1 ((0 : Int32).toNatClampNeg) = (r8).toInt64 from hv9]
    refine lv_iload hx hb dL_law_695 (lv_at hl 0 rfl) ?_
    refine lv_i2l (v := r8.toInt64) hx hb dL_law_697 rfl ?_
    refine W.lcmp hx hb dL_law_698 ?_
    refine lv_if_eq (tgt := 704) hx hb dL_law_699 (by decide) (fun _ => ?_) (fun c8 => absurd (lg_cmp_self _) c8)
    refine lv_goto (tgt := 1406) hx hb dL_law_704 (by decide) ?_
    refine W.widen (k := 22 + (k + 1) * 1173) (n := 397 + (k + 1) * 14243) (by omega) (by omega) ?_
    have hl : lv_has ls 9 [(4, .int (nI (4 * k))), (0, .ref b), (1, .ref (ad 0 0)), (2, .ref (ad 0 1)), (3, .ref (ad 0 2))] := lv_sub hl [2, 3, 4, 5, 6] rfl
    exact nx ad N1 C1 (s_X5_watch N M v) o1 _ _ _ hW hR1 (fun _ => rfl) hS hl
set_option maxHeartbeats 4000000 in
set_option maxRecDepth 100000 in
theorem law_scene {p : Program} {l : Launch} {e : Env} {s : State} {m : MethodId} {below : List Frame} {meth : Method} {c : Code} {b L : Nat} {xs : Nat → Int32} {D : va_G} {G : gG} {mi : Nat} (hLC : LC p l s m meth c b L xs D G mi) {k : Nat} (hk : 4 * k + 4 ≤ L) {ad : gAd} {N : gN} {C M : gT} {o : Nat → Int64} {H : Heap} {locs : List Loc} {ls : Array Slot} (hW : gW D (lwA s) ad (Wd G ad N C M o) H) (hR : Rel k N C M) (hS : va_S (lwA s) s.heap H locs) (hl : lv_has ls 9 [(4, .int (nI (4 * k))), (0, .ref b), (1, .ref (ad 0 0)), (2, .ref (ad 0 1)), (3, .ref (ad 0 2))]) (nx : ∀ (ad2 : gAd) (N2 : gN) (C2 M2 : gT) (o2 : Nat → Int64) (H2 : Heap) (locs2 : List Loc) (ls2 : Array Slot), gW D (lwA s) ad2 (Wd G ad2 N2 C2 M2 o2) H2 → Rel (k + 1) N2 C2 M2 → (∀ i, ad2 0 i = ad 0 i) → va_S (lwA s) s.heap H2 locs2 → lv_has ls2 9 [(4, .int (nI (4 * k))), (0, .ref b), (1, .ref (ad 0 0)), (2, .ref (ad 0 1)), (3, .ref (ad 0 2))] → W p l e room_1 s m #[Value.ref b] below meth c H2 locs2 (22 + (k + 1) * 1173) (397 + (k + 1) * 14243) (lw_Z below #[Value.ref b] s) (F0 m 1406 ls2 [])) : W p l e room_1 s m #[Value.ref b] below meth c H locs (22 + k * 1173) (397 + k * 14243) (lw_Z below #[Value.ref b] s) (F0 m 707 ls []) := by
  obtain ⟨hAt, hl0, hK, hE, hL, hNe, hNc, hL2⟩ := hLC
  obtain ⟨hx, hb, hrt, hml, hown, hts0, hX, hbl, hlocks, hgv⟩ := hAt
  have hown : s.vm.findClass RL = some m.cls := hown
  have hts : ∀ w ∈ wsL_law, w.before #[Value.ref b] s = true := fun w h => hts0 w (wsL_law_in w h)
  have C0 : CallFix p m c cL_law 9 s #[Value.ref b] wsL_law RL := ⟨hx, hb, hml, hown, hts⟩
  have hbA : ¬ lwA s b := Nat.not_le.mpr hbl
  have hA : ∀ q, H.size ≤ q → lwA s q := fun q h => Nat.le_trans hS.1 h
  have hk5 : k ≤ 511 := by omega
  obtain ⟨v, hv_v⟩ : ∃ y : Int32, y = (xs (nI (4 * k + 1)).toNatClampNeg) := ⟨_, rfl⟩
  obtain ⟨w, hv_w⟩ : ∃ y : Int32, y = (xs (nI (4 * k + 2)).toNatClampNeg) := ⟨_, rfl⟩
  refine lv_aload_n hx hb dL_law_707 rfl (lv_at hl 2 rfl) ?_
  refine lv_aload_n hx hb dL_law_708 rfl (lv_at hl 1 rfl) ?_
  refine lv_iload hx hb dL_law_709 (lv_at hl 0 rfl) ?_
  refine lv_iconst (v := 1) hx hb dL_law_711 (by decide) ?_
  refine lv_iadd hx hb dL_law_712 ?_
  rw [show nI (4 * k) + 1 = nI (4 * k + 1) from nI_add _ _]
  refine va_sld hx hb hX hbl hbA hS (vp_in_nI (show 4 * k + 1 < L by omega) (by omega)) dL_law_713 ?_
  rw [← hv_v]
  refine lv_aload_n hx hb dL_law_714 rfl (lv_at hl 1 rfl) ?_
  refine lv_iload hx hb dL_law_715 (lv_at hl 0 rfl) ?_
  refine lv_iconst (v := 2) hx hb dL_law_717 (by decide) ?_
  refine lv_iadd hx hb dL_law_718 ?_
  rw [show nI (4 * k) + 2 = nI (4 * k + 2) from nI_add _ _]
  refine va_sld hx hb hX hbl hbA hS (vp_in_nI (show 4 * k + 2 < L by omega) (by omega)) dL_law_719 ?_
  rw [← hv_w]
  refine lv_aload_n hx hb dL_law_720 rfl (lv_at hl 4 rfl) ?_
  have hM9 := c_L_scene l D G (lwA s) ad N C M o H hW hl0 hR.ic mi v w
  refine g_ZSi (As := [.ref (ad 0 0), .int v, .int w, .ref (ad 0 2)]) (rest := []) (post := fun (r : Int32) (_ : Unit) => okW oI (f_X4_scene C N v w) r) (B := fun (_ : Unit) H => gW D (lwA s) ad (oW (f_X4_scene C N v w) (fun a => Wd G ad N C M (oL o a.toInt64)) (Wd G ad N C M o)) H) (mc := 1) (ms := 6) C0 hM9 (vx_cwSW 4 hts gL_law_L_scene rfl rfl rfl (by decide +kernel) ⟨Nat.le_of_ble_eq_true rfl, Nat.le_of_ble_eq_true rfl⟩) hK hE hL hNe hNc rfl rfl hl rfl (Nat.le_of_ble_eq_true rfl) dL_law_721 ⟨(by show 22 + k * 1173 + 1 ≤ 601024; omega), (by show 397 + k * 14243 + 6 ≤ 7293034; omega)⟩ hS (fun k9 u H1 locs1 hok hW hz hS => ?_)
  have hq := q_scene hR v w
  obtain ⟨N1, C1, o1, hW, hR1, hth, hov⟩ := st_W (val := fun a => a.toInt64) hd_I hok hq.1 hW ((hq.2 C hR).mono (Nat.le_succ k)) (fun E hE9 => ⟨rfl, rfl⟩)
  refine lv_istore (lv' := [(5, .int k9), (4, .int (nI (4 * k))), (0, .ref b), (1, .ref (ad 0 0)), (2, .ref (ad 0 1)), (3, .ref (ad 0 2))]) hx hb dL_law_724 hl (by decide) rfl (fun ls hl => ?_)
  refine lv_aload_n hx hb dL_law_726 rfl (lv_at hl 4 rfl) ?_
  refine lv_aload_n hx hb dL_law_727 rfl (lv_at hl 2 rfl) ?_
  refine lv_iload hx hb dL_law_728 (lv_at hl 1 rfl) ?_
  refine lv_iconst (v := 1) hx hb dL_law_730 (by decide) ?_
  refine lv_iadd hx hb dL_law_731 ?_
  rw [show nI (4 * k) + 1 = nI (4 * k + 1) from nI_add _ _]
  refine va_sld hx hb hX hbl hbA hS (vp_in_nI (show 4 * k + 1 < L by omega) (by omega)) dL_law_732 ?_
  rw [← hv_v]
  refine lv_aload_n hx hb dL_law_733 rfl (lv_at hl 2 rfl) ?_
  refine lv_iload hx hb dL_law_734 (lv_at hl 1 rfl) ?_
  refine lv_iconst (v := 2) hx hb dL_law_736 (by decide) ?_
  refine lv_iadd hx hb dL_law_737 ?_
  rw [show nI (4 * k) + 2 = nI (4 * k + 2) from nI_add _ _]
  refine va_sld hx hb hX hbl hbA hS (vp_in_nI (show 4 * k + 2 < L by omega) (by omega)) dL_law_738 ?_
  rw [← hv_w]
  have hI := hR.im (by omega)
  refine g_wVi (As := [.int v, .int w]) (rest := []) (B := fun (_ : Unit) H => gW D (lwA s) ad (Wd G ad N1 C1 (s_X5_scene N M v w) o1) H) (mc := 0) (ms := 0) C0 (c_X5_scene l D G (lwA s) ad N1 C1 M o1 H1 hW N hI v w) (cwV 2 hts gL_law_X5_scene rfl rfl rfl (by decide +kernel) ⟨Nat.le_of_ble_eq_true rfl, Nat.le_of_ble_eq_true rfl⟩) hK (va_recv hK (hW.p rfl) (ci := 6) (q0 := 0) rfl rfl) rfl hl rfl (Nat.le_of_ble_eq_true rfl) dL_law_739 ⟨(by show 22 + k * 1173 + 1 + 0 ≤ 601024; omega), (by show 397 + k * 14243 + 6 + 0 ≤ 7293034; omega)⟩ hS (fun r8 u8 H2 locs2 hr8 hW hz hS => ?_)
  replace hr8 : r8 = (f_X5_scene N M v w) := hr8
  refine lv_istore (lv' := [(6, .int r8), (5, .int k9), (4, .int (nI (4 * k))), (0, .ref b), (1, .ref (ad 0 0)), (2, .ref (ad 0 1)), (3, .ref (ad 0 2))]) hx hb dL_law_742 hl (by decide) rfl (fun ls hl => ?_)
  refine lv_aload_n hx hb dL_law_744 rfl (lv_at hl 5 rfl) ?_
  refine g_Vi (As := []) (rest := []) C0 (c_X5_thrown l D G (lwA s) ad N1 C1 (s_X5_scene N M v w) o1 H2 hW) (cwV 0 hts gL_law_X5_thrown rfl rfl rfl (by decide +kernel) ⟨Nat.le_of_ble_eq_true rfl, Nat.le_of_ble_eq_true rfl⟩) hK (va_recv hK (hW.p rfl) (ci := 6) (q0 := 0) rfl rfl) rfl hl rfl (Nat.le_of_ble_eq_true rfl) dL_law_745 ⟨(by show 22 + k * 1173 + 1 + 0 ≤ 601024; omega), (by show 397 + k * 14243 + 6 + 0 ≤ 7293034; omega)⟩ hS (fun th locs3 hth3 hS => ?_)
  replace hth3 : th = k9 := hth3.trans hth
  subst th
  refine lv_iload hx hb dL_law_748 (lv_at hl 1 rfl) ?_
  refine lv_icmp_eq (tgt := 755) hx hb dL_law_750 (by decide) (fun _ => ?_) (fun c9 => absurd rfl c9)
  refine lv_iload hx hb dL_law_755 (lv_at hl 1 rfl) ?_
  refine lv_if_ne (tgt := 772) hx hb dL_law_757 (by decide) (fun c9 => ?_) (fun c9 => ?_)
  · refine lv_goto (tgt := 1406) hx hb dL_law_772 (by decide) ?_
    refine W.widen (k := 22 + (k + 1) * 1173) (n := 397 + (k + 1) * 14243) (by omega) (by omega) ?_
    have hl : lv_has ls 9 [(4, .int (nI (4 * k))), (0, .ref b), (1, .ref (ad 0 0)), (2, .ref (ad 0 1)), (3, .ref (ad 0 2))] := lv_sub hl [2, 3, 4, 5, 6] rfl
    exact nx ad N1 C1 (s_X5_scene N M v w) o1 _ _ _ hW hR1 (fun _ => rfl) hS hl
  · refine lv_aload_n hx hb dL_law_760 rfl (lv_at hl 6 rfl) ?_
    refine lv_iconst (v := 0) hx hb dL_law_761 (by decide) ?_
    refine g_lald (ad := ad) hx hb hK hW 1 (n := 1) (f := o1) rfl rfl (vp_in_nI (by decide : 0 < 1) (by decide)) dL_law_762 ?_
    have hv9 : o1 ((nI 0).toNatClampNeg) = (r8).toInt64 := by rw [hr8]; exact hov c9
    rw [show o1 ((0 : Int32).toNatClampNeg) = (r8).toInt64 from hv9]
    refine lv_iload hx hb dL_law_763 (lv_at hl 0 rfl) ?_
    refine lv_i2l (v := r8.toInt64) hx hb dL_law_765 rfl ?_
    refine W.lcmp hx hb dL_law_766 ?_
    refine lv_if_eq (tgt := 772) hx hb dL_law_767 (by decide) (fun _ => ?_) (fun c8 => absurd (lg_cmp_self _) c8)
    refine lv_goto (tgt := 1406) hx hb dL_law_772 (by decide) ?_
    refine W.widen (k := 22 + (k + 1) * 1173) (n := 397 + (k + 1) * 14243) (by omega) (by omega) ?_
    have hl : lv_has ls 9 [(4, .int (nI (4 * k))), (0, .ref b), (1, .ref (ad 0 0)), (2, .ref (ad 0 1)), (3, .ref (ad 0 2))] := lv_sub hl [2, 3, 4, 5, 6] rfl
    exact nx ad N1 C1 (s_X5_scene N M v w) o1 _ _ _ hW hR1 (fun _ => rfl) hS hl
set_option maxHeartbeats 4000000 in
set_option maxRecDepth 100000 in
theorem law_guard {p : Program} {l : Launch} {e : Env} {s : State} {m : MethodId} {below : List Frame} {meth : Method} {c : Code} {b L : Nat} {xs : Nat → Int32} {D : va_G} {G : gG} {mi : Nat} (hLC : LC p l s m meth c b L xs D G mi) {k : Nat} (hk : 4 * k + 4 ≤ L) {ad : gAd} {N : gN} {C M : gT} {o : Nat → Int64} {H : Heap} {locs : List Loc} {ls : Array Slot} (hW : gW D (lwA s) ad (Wd G ad N C M o) H) (hR : Rel k N C M) (hS : va_S (lwA s) s.heap H locs) (hl : lv_has ls 9 [(4, .int (nI (4 * k))), (0, .ref b), (1, .ref (ad 0 0)), (2, .ref (ad 0 1)), (3, .ref (ad 0 2))]) (nx : ∀ (ad2 : gAd) (N2 : gN) (C2 M2 : gT) (o2 : Nat → Int64) (H2 : Heap) (locs2 : List Loc) (ls2 : Array Slot), gW D (lwA s) ad2 (Wd G ad2 N2 C2 M2 o2) H2 → Rel (k + 1) N2 C2 M2 → (∀ i, ad2 0 i = ad 0 i) → va_S (lwA s) s.heap H2 locs2 → lv_has ls2 9 [(4, .int (nI (4 * k))), (0, .ref b), (1, .ref (ad 0 0)), (2, .ref (ad 0 1)), (3, .ref (ad 0 2))] → W p l e room_1 s m #[Value.ref b] below meth c H2 locs2 (22 + (k + 1) * 1173) (397 + (k + 1) * 14243) (lw_Z below #[Value.ref b] s) (F0 m 1406 ls2 [])) : W p l e room_1 s m #[Value.ref b] below meth c H locs (22 + k * 1173) (397 + k * 14243) (lw_Z below #[Value.ref b] s) (F0 m 775 ls []) := by
  obtain ⟨hAt, hl0, hK, hE, hL, hNe, hNc, hL2⟩ := hLC
  obtain ⟨hx, hb, hrt, hml, hown, hts0, hX, hbl, hlocks, hgv⟩ := hAt
  have hown : s.vm.findClass RL = some m.cls := hown
  have hts : ∀ w ∈ wsL_law, w.before #[Value.ref b] s = true := fun w h => hts0 w (wsL_law_in w h)
  have C0 : CallFix p m c cL_law 9 s #[Value.ref b] wsL_law RL := ⟨hx, hb, hml, hown, hts⟩
  have hbA : ¬ lwA s b := Nat.not_le.mpr hbl
  have hA : ∀ q, H.size ≤ q → lwA s q := fun q h => Nat.le_trans hS.1 h
  have hk5 : k ≤ 511 := by omega
  obtain ⟨v, hv_v⟩ : ∃ y : Int32, y = (xs (nI (4 * k + 1)).toNatClampNeg) := ⟨_, rfl⟩
  obtain ⟨w, hv_w⟩ : ∃ y : Int32, y = (xs (nI (4 * k + 2)).toNatClampNeg) := ⟨_, rfl⟩
  refine lv_aload_n hx hb dL_law_775 rfl (lv_at hl 2 rfl) ?_
  refine lv_aload_n hx hb dL_law_776 rfl (lv_at hl 1 rfl) ?_
  refine lv_iload hx hb dL_law_777 (lv_at hl 0 rfl) ?_
  refine lv_iconst (v := 1) hx hb dL_law_779 (by decide) ?_
  refine lv_iadd hx hb dL_law_780 ?_
  rw [show nI (4 * k) + 1 = nI (4 * k + 1) from nI_add _ _]
  refine va_sld hx hb hX hbl hbA hS (vp_in_nI (show 4 * k + 1 < L by omega) (by omega)) dL_law_781 ?_
  rw [← hv_v]
  refine lv_aload_n hx hb dL_law_782 rfl (lv_at hl 1 rfl) ?_
  refine lv_iload hx hb dL_law_783 (lv_at hl 0 rfl) ?_
  refine lv_iconst (v := 2) hx hb dL_law_785 (by decide) ?_
  refine lv_iadd hx hb dL_law_786 ?_
  rw [show nI (4 * k) + 2 = nI (4 * k + 2) from nI_add _ _]
  refine va_sld hx hb hX hbl hbA hS (vp_in_nI (show 4 * k + 2 < L by omega) (by omega)) dL_law_787 ?_
  rw [← hv_w]
  refine lv_aload_n hx hb dL_law_788 rfl (lv_at hl 4 rfl) ?_
  have hM9 := c_L_guard l D G (lwA s) ad N C M o H hW hl0 hR.ic mi v w
  refine g_ZSi (As := [.ref (ad 0 0), .int v, .int w, .ref (ad 0 2)]) (rest := []) (post := fun (r : Int32) (_ : Unit) => okW oI (f_X4_guard C N v w) r) (B := fun (_ : Unit) H => gW D (lwA s) ad (oW (f_X4_guard C N v w) (fun a => Wd G ad N C M (oL o a.toInt64)) (Wd G ad N C M o)) H) (mc := 1) (ms := 6) C0 hM9 (vx_cwSW 4 hts gL_law_L_guard rfl rfl rfl (by decide +kernel) ⟨Nat.le_of_ble_eq_true rfl, Nat.le_of_ble_eq_true rfl⟩) hK hE hL hNe hNc rfl rfl hl rfl (Nat.le_of_ble_eq_true rfl) dL_law_789 ⟨(by show 22 + k * 1173 + 1 ≤ 601024; omega), (by show 397 + k * 14243 + 6 ≤ 7293034; omega)⟩ hS (fun k9 u H1 locs1 hok hW hz hS => ?_)
  have hq := q_guard hR v w
  obtain ⟨N1, C1, o1, hW, hR1, hth, hov⟩ := st_W (val := fun a => a.toInt64) hd_I hok hq.1 hW ((hq.2 C hR).mono (Nat.le_succ k)) (fun E hE9 => ⟨rfl, rfl⟩)
  refine lv_istore (lv' := [(5, .int k9), (4, .int (nI (4 * k))), (0, .ref b), (1, .ref (ad 0 0)), (2, .ref (ad 0 1)), (3, .ref (ad 0 2))]) hx hb dL_law_792 hl (by decide) rfl (fun ls hl => ?_)
  refine lv_aload_n hx hb dL_law_794 rfl (lv_at hl 4 rfl) ?_
  refine lv_aload_n hx hb dL_law_795 rfl (lv_at hl 2 rfl) ?_
  refine lv_iload hx hb dL_law_796 (lv_at hl 1 rfl) ?_
  refine lv_iconst (v := 1) hx hb dL_law_798 (by decide) ?_
  refine lv_iadd hx hb dL_law_799 ?_
  rw [show nI (4 * k) + 1 = nI (4 * k + 1) from nI_add _ _]
  refine va_sld hx hb hX hbl hbA hS (vp_in_nI (show 4 * k + 1 < L by omega) (by omega)) dL_law_800 ?_
  rw [← hv_v]
  refine lv_aload_n hx hb dL_law_801 rfl (lv_at hl 2 rfl) ?_
  refine lv_iload hx hb dL_law_802 (lv_at hl 1 rfl) ?_
  refine lv_iconst (v := 2) hx hb dL_law_804 (by decide) ?_
  refine lv_iadd hx hb dL_law_805 ?_
  rw [show nI (4 * k) + 2 = nI (4 * k + 2) from nI_add _ _]
  refine va_sld hx hb hX hbl hbA hS (vp_in_nI (show 4 * k + 2 < L by omega) (by omega)) dL_law_806 ?_
  rw [← hv_w]
  have hI := hR.im (by omega)
  refine g_wVi (As := [.int v, .int w]) (rest := []) (B := fun (_ : Unit) H => gW D (lwA s) ad (Wd G ad N1 C1 (s_X5_guard N M v w) o1) H) (mc := 0) (ms := 0) C0 (c_X5_guard l D G (lwA s) ad N1 C1 M o1 H1 hW N hI v w) (cwV 2 hts gL_law_X5_guard rfl rfl rfl (by decide +kernel) ⟨Nat.le_of_ble_eq_true rfl, Nat.le_of_ble_eq_true rfl⟩) hK (va_recv hK (hW.p rfl) (ci := 6) (q0 := 0) rfl rfl) rfl hl rfl (Nat.le_of_ble_eq_true rfl) dL_law_807 ⟨(by show 22 + k * 1173 + 1 + 0 ≤ 601024; omega), (by show 397 + k * 14243 + 6 + 0 ≤ 7293034; omega)⟩ hS (fun r8 u8 H2 locs2 hr8 hW hz hS => ?_)
  replace hr8 : r8 = (f_X5_guard N M v w) := hr8
  refine lv_istore (lv' := [(6, .int r8), (5, .int k9), (4, .int (nI (4 * k))), (0, .ref b), (1, .ref (ad 0 0)), (2, .ref (ad 0 1)), (3, .ref (ad 0 2))]) hx hb dL_law_810 hl (by decide) rfl (fun ls hl => ?_)
  refine lv_aload_n hx hb dL_law_812 rfl (lv_at hl 5 rfl) ?_
  refine g_Vi (As := []) (rest := []) C0 (c_X5_thrown l D G (lwA s) ad N1 C1 (s_X5_guard N M v w) o1 H2 hW) (cwV 0 hts gL_law_X5_thrown rfl rfl rfl (by decide +kernel) ⟨Nat.le_of_ble_eq_true rfl, Nat.le_of_ble_eq_true rfl⟩) hK (va_recv hK (hW.p rfl) (ci := 6) (q0 := 0) rfl rfl) rfl hl rfl (Nat.le_of_ble_eq_true rfl) dL_law_813 ⟨(by show 22 + k * 1173 + 1 + 0 ≤ 601024; omega), (by show 397 + k * 14243 + 6 + 0 ≤ 7293034; omega)⟩ hS (fun th locs3 hth3 hS => ?_)
  replace hth3 : th = k9 := hth3.trans hth
  subst th
  refine lv_iload hx hb dL_law_816 (lv_at hl 1 rfl) ?_
  refine lv_icmp_eq (tgt := 823) hx hb dL_law_818 (by decide) (fun _ => ?_) (fun c9 => absurd rfl c9)
  refine lv_iload hx hb dL_law_823 (lv_at hl 1 rfl) ?_
  refine lv_if_ne (tgt := 840) hx hb dL_law_825 (by decide) (fun c9 => ?_) (fun c9 => ?_)
  · refine lv_goto (tgt := 1406) hx hb dL_law_840 (by decide) ?_
    refine W.widen (k := 22 + (k + 1) * 1173) (n := 397 + (k + 1) * 14243) (by omega) (by omega) ?_
    have hl : lv_has ls 9 [(4, .int (nI (4 * k))), (0, .ref b), (1, .ref (ad 0 0)), (2, .ref (ad 0 1)), (3, .ref (ad 0 2))] := lv_sub hl [2, 3, 4, 5, 6] rfl
    exact nx ad N1 C1 (s_X5_guard N M v w) o1 _ _ _ hW hR1 (fun _ => rfl) hS hl
  · refine lv_aload_n hx hb dL_law_828 rfl (lv_at hl 6 rfl) ?_
    refine lv_iconst (v := 0) hx hb dL_law_829 (by decide) ?_
    refine g_lald (ad := ad) hx hb hK hW 1 (n := 1) (f := o1) rfl rfl (vp_in_nI (by decide : 0 < 1) (by decide)) dL_law_830 ?_
    have hv9 : o1 ((nI 0).toNatClampNeg) = (r8).toInt64 := by rw [hr8]; exact hov c9
    rw [show o1 ((0 : Int32).toNatClampNeg) = (r8).toInt64 from hv9]
    refine lv_iload hx hb dL_law_831 (lv_at hl 0 rfl) ?_
    refine lv_i2l (v := r8.toInt64) hx hb dL_law_833 rfl ?_
    refine W.lcmp hx hb dL_law_834 ?_
    refine lv_if_eq (tgt := 840) hx hb dL_law_835 (by decide) (fun _ => ?_) (fun c8 => absurd (lg_cmp_self _) c8)
    refine lv_goto (tgt := 1406) hx hb dL_law_840 (by decide) ?_
    refine W.widen (k := 22 + (k + 1) * 1173) (n := 397 + (k + 1) * 14243) (by omega) (by omega) ?_
    have hl : lv_has ls 9 [(4, .int (nI (4 * k))), (0, .ref b), (1, .ref (ad 0 0)), (2, .ref (ad 0 1)), (3, .ref (ad 0 2))] := lv_sub hl [2, 3, 4, 5, 6] rfl
    exact nx ad N1 C1 (s_X5_guard N M v w) o1 _ _ _ hW hR1 (fun _ => rfl) hS hl
set_option maxHeartbeats 4000000 in
set_option maxRecDepth 100000 in
theorem law_traveller {p : Program} {l : Launch} {e : Env} {s : State} {m : MethodId} {below : List Frame} {meth : Method} {c : Code} {b L : Nat} {xs : Nat → Int32} {D : va_G} {G : gG} {mi : Nat} (hLC : LC p l s m meth c b L xs D G mi) {k : Nat} (hk : 4 * k + 4 ≤ L) {ad : gAd} {N : gN} {C M : gT} {o : Nat → Int64} {H : Heap} {locs : List Loc} {ls : Array Slot} (hW : gW D (lwA s) ad (Wd G ad N C M o) H) (hR : Rel k N C M) (hS : va_S (lwA s) s.heap H locs) (hl : lv_has ls 9 [(4, .int (nI (4 * k))), (0, .ref b), (1, .ref (ad 0 0)), (2, .ref (ad 0 1)), (3, .ref (ad 0 2))]) (nx : ∀ (ad2 : gAd) (N2 : gN) (C2 M2 : gT) (o2 : Nat → Int64) (H2 : Heap) (locs2 : List Loc) (ls2 : Array Slot), gW D (lwA s) ad2 (Wd G ad2 N2 C2 M2 o2) H2 → Rel (k + 1) N2 C2 M2 → (∀ i, ad2 0 i = ad 0 i) → va_S (lwA s) s.heap H2 locs2 → lv_has ls2 9 [(4, .int (nI (4 * k))), (0, .ref b), (1, .ref (ad 0 0)), (2, .ref (ad 0 1)), (3, .ref (ad 0 2))] → W p l e room_1 s m #[Value.ref b] below meth c H2 locs2 (22 + (k + 1) * 1173) (397 + (k + 1) * 14243) (lw_Z below #[Value.ref b] s) (F0 m 1406 ls2 [])) : W p l e room_1 s m #[Value.ref b] below meth c H locs (22 + k * 1173) (397 + k * 14243) (lw_Z below #[Value.ref b] s) (F0 m 843 ls []) := by
  obtain ⟨hAt, hl0, hK, hE, hL, hNe, hNc, hL2⟩ := hLC
  obtain ⟨hx, hb, hrt, hml, hown, hts0, hX, hbl, hlocks, hgv⟩ := hAt
  have hown : s.vm.findClass RL = some m.cls := hown
  have hts : ∀ w ∈ wsL_law, w.before #[Value.ref b] s = true := fun w h => hts0 w (wsL_law_in w h)
  have C0 : CallFix p m c cL_law 9 s #[Value.ref b] wsL_law RL := ⟨hx, hb, hml, hown, hts⟩
  have hbA : ¬ lwA s b := Nat.not_le.mpr hbl
  have hA : ∀ q, H.size ≤ q → lwA s q := fun q h => Nat.le_trans hS.1 h
  have hk5 : k ≤ 511 := by omega
  obtain ⟨v, hv_v⟩ : ∃ y : Int32, y = (xs (nI (4 * k + 1)).toNatClampNeg) := ⟨_, rfl⟩
  obtain ⟨w, hv_w⟩ : ∃ y : Int32, y = (xs (nI (4 * k + 2)).toNatClampNeg) := ⟨_, rfl⟩
  refine lv_aload_n hx hb dL_law_843 rfl (lv_at hl 2 rfl) ?_
  refine lv_aload_n hx hb dL_law_844 rfl (lv_at hl 1 rfl) ?_
  refine lv_iload hx hb dL_law_845 (lv_at hl 0 rfl) ?_
  refine lv_iconst (v := 1) hx hb dL_law_847 (by decide) ?_
  refine lv_iadd hx hb dL_law_848 ?_
  rw [show nI (4 * k) + 1 = nI (4 * k + 1) from nI_add _ _]
  refine va_sld hx hb hX hbl hbA hS (vp_in_nI (show 4 * k + 1 < L by omega) (by omega)) dL_law_849 ?_
  rw [← hv_v]
  refine lv_aload_n hx hb dL_law_850 rfl (lv_at hl 1 rfl) ?_
  refine lv_iload hx hb dL_law_851 (lv_at hl 0 rfl) ?_
  refine lv_iconst (v := 2) hx hb dL_law_853 (by decide) ?_
  refine lv_iadd hx hb dL_law_854 ?_
  rw [show nI (4 * k) + 2 = nI (4 * k + 2) from nI_add _ _]
  refine va_sld hx hb hX hbl hbA hS (vp_in_nI (show 4 * k + 2 < L by omega) (by omega)) dL_law_855 ?_
  rw [← hv_w]
  refine lv_aload_n hx hb dL_law_856 rfl (lv_at hl 4 rfl) ?_
  have hM9 := c_L_traveller l D G (lwA s) ad N C M o H hW hl0 hR.ic mi v w
  refine g_ZSi (As := [.ref (ad 0 0), .int v, .int w, .ref (ad 0 2)]) (rest := []) (post := fun (r : Int32) (_ : Unit) => okW oI (f_X4_traveller C N v w) r) (B := fun (_ : Unit) H => gW D (lwA s) ad (oW (f_X4_traveller C N v w) (fun a => Wd G ad N C M (oL o a.toInt64)) (Wd G ad N C M o)) H) (mc := 1) (ms := 6) C0 hM9 (vx_cwSW 4 hts gL_law_L_traveller rfl rfl rfl (by decide +kernel) ⟨Nat.le_of_ble_eq_true rfl, Nat.le_of_ble_eq_true rfl⟩) hK hE hL hNe hNc rfl rfl hl rfl (Nat.le_of_ble_eq_true rfl) dL_law_857 ⟨(by show 22 + k * 1173 + 1 ≤ 601024; omega), (by show 397 + k * 14243 + 6 ≤ 7293034; omega)⟩ hS (fun k9 u H1 locs1 hok hW hz hS => ?_)
  have hq := q_traveller hR v w
  obtain ⟨N1, C1, o1, hW, hR1, hth, hov⟩ := st_W (val := fun a => a.toInt64) hd_I hok hq.1 hW ((hq.2 C hR).mono (Nat.le_succ k)) (fun E hE9 => ⟨rfl, rfl⟩)
  refine lv_istore (lv' := [(5, .int k9), (4, .int (nI (4 * k))), (0, .ref b), (1, .ref (ad 0 0)), (2, .ref (ad 0 1)), (3, .ref (ad 0 2))]) hx hb dL_law_860 hl (by decide) rfl (fun ls hl => ?_)
  refine lv_aload_n hx hb dL_law_862 rfl (lv_at hl 4 rfl) ?_
  refine lv_aload_n hx hb dL_law_863 rfl (lv_at hl 2 rfl) ?_
  refine lv_iload hx hb dL_law_864 (lv_at hl 1 rfl) ?_
  refine lv_iconst (v := 1) hx hb dL_law_866 (by decide) ?_
  refine lv_iadd hx hb dL_law_867 ?_
  rw [show nI (4 * k) + 1 = nI (4 * k + 1) from nI_add _ _]
  refine va_sld hx hb hX hbl hbA hS (vp_in_nI (show 4 * k + 1 < L by omega) (by omega)) dL_law_868 ?_
  rw [← hv_v]
  refine lv_aload_n hx hb dL_law_869 rfl (lv_at hl 2 rfl) ?_
  refine lv_iload hx hb dL_law_870 (lv_at hl 1 rfl) ?_
  refine lv_iconst (v := 2) hx hb dL_law_872 (by decide) ?_
  refine lv_iadd hx hb dL_law_873 ?_
  rw [show nI (4 * k) + 2 = nI (4 * k + 2) from nI_add _ _]
  refine va_sld hx hb hX hbl hbA hS (vp_in_nI (show 4 * k + 2 < L by omega) (by omega)) dL_law_874 ?_
  rw [← hv_w]
  have hI := hR.im (by omega)
  refine g_wVi (As := [.int v, .int w]) (rest := []) (B := fun (_ : Unit) H => gW D (lwA s) ad (Wd G ad N1 C1 (s_X5_traveller N M v w) o1) H) (mc := 1) (ms := 5) C0 (c_X5_traveller l D G (lwA s) ad N1 C1 M o1 H1 hW (fun q h => Nat.le_trans hS.1 h) N hI v w) (cwV 2 hts gL_law_X5_traveller rfl rfl rfl (by decide +kernel) ⟨Nat.le_of_ble_eq_true rfl, Nat.le_of_ble_eq_true rfl⟩) hK (va_recv hK (hW.p rfl) (ci := 6) (q0 := 0) rfl rfl) rfl hl rfl (Nat.le_of_ble_eq_true rfl) dL_law_875 ⟨(by show 22 + k * 1173 + 1 + 1 ≤ 601024; omega), (by show 397 + k * 14243 + 6 + 5 ≤ 7293034; omega)⟩ hS (fun r8 u8 H2 locs2 hr8 hW hz hS => ?_)
  replace hr8 : r8 = (f_X5_traveller N M v w) := hr8
  refine lv_istore (lv' := [(6, .int r8), (5, .int k9), (4, .int (nI (4 * k))), (0, .ref b), (1, .ref (ad 0 0)), (2, .ref (ad 0 1)), (3, .ref (ad 0 2))]) hx hb dL_law_878 hl (by decide) rfl (fun ls hl => ?_)
  refine lv_aload_n hx hb dL_law_880 rfl (lv_at hl 5 rfl) ?_
  refine g_Vi (As := []) (rest := []) C0 (c_X5_thrown l D G (lwA s) ad N1 C1 (s_X5_traveller N M v w) o1 H2 hW) (cwV 0 hts gL_law_X5_thrown rfl rfl rfl (by decide +kernel) ⟨Nat.le_of_ble_eq_true rfl, Nat.le_of_ble_eq_true rfl⟩) hK (va_recv hK (hW.p rfl) (ci := 6) (q0 := 0) rfl rfl) rfl hl rfl (Nat.le_of_ble_eq_true rfl) dL_law_881 ⟨(by show 22 + k * 1173 + 1 + 1 ≤ 601024; omega), (by show 397 + k * 14243 + 6 + 5 ≤ 7293034; omega)⟩ hS (fun th locs3 hth3 hS => ?_)
  replace hth3 : th = k9 := hth3.trans hth
  subst th
  refine lv_iload hx hb dL_law_884 (lv_at hl 1 rfl) ?_
  refine lv_icmp_eq (tgt := 891) hx hb dL_law_886 (by decide) (fun _ => ?_) (fun c9 => absurd rfl c9)
  refine lv_iload hx hb dL_law_891 (lv_at hl 1 rfl) ?_
  refine lv_if_ne (tgt := 908) hx hb dL_law_893 (by decide) (fun c9 => ?_) (fun c9 => ?_)
  · refine lv_goto (tgt := 1406) hx hb dL_law_908 (by decide) ?_
    refine W.widen (k := 22 + (k + 1) * 1173) (n := 397 + (k + 1) * 14243) (by omega) (by omega) ?_
    have hl : lv_has ls 9 [(4, .int (nI (4 * k))), (0, .ref b), (1, .ref (ad 0 0)), (2, .ref (ad 0 1)), (3, .ref (ad 0 2))] := lv_sub hl [2, 3, 4, 5, 6] rfl
    exact nx ad N1 C1 (s_X5_traveller N M v w) o1 _ _ _ hW hR1 (fun _ => rfl) hS hl
  · refine lv_aload_n hx hb dL_law_896 rfl (lv_at hl 6 rfl) ?_
    refine lv_iconst (v := 0) hx hb dL_law_897 (by decide) ?_
    refine g_lald (ad := ad) hx hb hK hW 1 (n := 1) (f := o1) rfl rfl (vp_in_nI (by decide : 0 < 1) (by decide)) dL_law_898 ?_
    have hv9 : o1 ((nI 0).toNatClampNeg) = (r8).toInt64 := by rw [hr8]; exact hov c9
    rw [show o1 ((0 : Int32).toNatClampNeg) = (r8).toInt64 from hv9]
    refine lv_iload hx hb dL_law_899 (lv_at hl 0 rfl) ?_
    refine lv_i2l (v := r8.toInt64) hx hb dL_law_901 rfl ?_
    refine W.lcmp hx hb dL_law_902 ?_
    refine lv_if_eq (tgt := 908) hx hb dL_law_903 (by decide) (fun _ => ?_) (fun c8 => absurd (lg_cmp_self _) c8)
    refine lv_goto (tgt := 1406) hx hb dL_law_908 (by decide) ?_
    refine W.widen (k := 22 + (k + 1) * 1173) (n := 397 + (k + 1) * 14243) (by omega) (by omega) ?_
    have hl : lv_has ls 9 [(4, .int (nI (4 * k))), (0, .ref b), (1, .ref (ad 0 0)), (2, .ref (ad 0 1)), (3, .ref (ad 0 2))] := lv_sub hl [2, 3, 4, 5, 6] rfl
    exact nx ad N1 C1 (s_X5_traveller N M v w) o1 _ _ _ hW hR1 (fun _ => rfl) hS hl
set_option maxHeartbeats 4000000 in
set_option maxRecDepth 100000 in
theorem law_plot {p : Program} {l : Launch} {e : Env} {s : State} {m : MethodId} {below : List Frame} {meth : Method} {c : Code} {b L : Nat} {xs : Nat → Int32} {D : va_G} {G : gG} {mi : Nat} (hLC : LC p l s m meth c b L xs D G mi) {k : Nat} (hk : 4 * k + 4 ≤ L) {ad : gAd} {N : gN} {C M : gT} {o : Nat → Int64} {H : Heap} {locs : List Loc} {ls : Array Slot} (hW : gW D (lwA s) ad (Wd G ad N C M o) H) (hR : Rel k N C M) (hS : va_S (lwA s) s.heap H locs) (hl : lv_has ls 9 [(4, .int (nI (4 * k))), (0, .ref b), (1, .ref (ad 0 0)), (2, .ref (ad 0 1)), (3, .ref (ad 0 2))]) (nx : ∀ (ad2 : gAd) (N2 : gN) (C2 M2 : gT) (o2 : Nat → Int64) (H2 : Heap) (locs2 : List Loc) (ls2 : Array Slot), gW D (lwA s) ad2 (Wd G ad2 N2 C2 M2 o2) H2 → Rel (k + 1) N2 C2 M2 → (∀ i, ad2 0 i = ad 0 i) → va_S (lwA s) s.heap H2 locs2 → lv_has ls2 9 [(4, .int (nI (4 * k))), (0, .ref b), (1, .ref (ad 0 0)), (2, .ref (ad 0 1)), (3, .ref (ad 0 2))] → W p l e room_1 s m #[Value.ref b] below meth c H2 locs2 (22 + (k + 1) * 1173) (397 + (k + 1) * 14243) (lw_Z below #[Value.ref b] s) (F0 m 1406 ls2 [])) : W p l e room_1 s m #[Value.ref b] below meth c H locs (22 + k * 1173) (397 + k * 14243) (lw_Z below #[Value.ref b] s) (F0 m 911 ls []) := by
  obtain ⟨hAt, hl0, hK, hE, hL, hNe, hNc, hL2⟩ := hLC
  obtain ⟨hx, hb, hrt, hml, hown, hts0, hX, hbl, hlocks, hgv⟩ := hAt
  have hown : s.vm.findClass RL = some m.cls := hown
  have hts : ∀ w ∈ wsL_law, w.before #[Value.ref b] s = true := fun w h => hts0 w (wsL_law_in w h)
  have C0 : CallFix p m c cL_law 9 s #[Value.ref b] wsL_law RL := ⟨hx, hb, hml, hown, hts⟩
  have hbA : ¬ lwA s b := Nat.not_le.mpr hbl
  have hA : ∀ q, H.size ≤ q → lwA s q := fun q h => Nat.le_trans hS.1 h
  have hk5 : k ≤ 511 := by omega
  obtain ⟨v, hv_v⟩ : ∃ y : Int32, y = (xs (nI (4 * k + 1)).toNatClampNeg) := ⟨_, rfl⟩
  obtain ⟨w, hv_w⟩ : ∃ y : Int32, y = (xs (nI (4 * k + 2)).toNatClampNeg) := ⟨_, rfl⟩
  refine lv_aload_n hx hb dL_law_911 rfl (lv_at hl 2 rfl) ?_
  refine lv_aload_n hx hb dL_law_912 rfl (lv_at hl 1 rfl) ?_
  refine lv_iload hx hb dL_law_913 (lv_at hl 0 rfl) ?_
  refine lv_iconst (v := 1) hx hb dL_law_915 (by decide) ?_
  refine lv_iadd hx hb dL_law_916 ?_
  rw [show nI (4 * k) + 1 = nI (4 * k + 1) from nI_add _ _]
  refine va_sld hx hb hX hbl hbA hS (vp_in_nI (show 4 * k + 1 < L by omega) (by omega)) dL_law_917 ?_
  rw [← hv_v]
  refine lv_aload_n hx hb dL_law_918 rfl (lv_at hl 1 rfl) ?_
  refine lv_iload hx hb dL_law_919 (lv_at hl 0 rfl) ?_
  refine lv_iconst (v := 2) hx hb dL_law_921 (by decide) ?_
  refine lv_iadd hx hb dL_law_922 ?_
  rw [show nI (4 * k) + 2 = nI (4 * k + 2) from nI_add _ _]
  refine va_sld hx hb hX hbl hbA hS (vp_in_nI (show 4 * k + 2 < L by omega) (by omega)) dL_law_923 ?_
  rw [← hv_w]
  refine lv_aload_n hx hb dL_law_924 rfl (lv_at hl 4 rfl) ?_
  have hM9 := c_L_plot l D G (lwA s) ad N C M o H hW hl0 hR.ic mi v w
  refine g_ZSi (As := [.ref (ad 0 0), .int v, .int w, .ref (ad 0 2)]) (rest := []) (post := fun (r : Int32) (_ : Unit) => okW oI (f_X4_plot C N v w) r) (B := fun (_ : Unit) H => gW D (lwA s) ad (oW (f_X4_plot C N v w) (fun a => Wd G ad N C M (oL o a.toInt64)) (Wd G ad N C M o)) H) (mc := 1) (ms := 6) C0 hM9 (vx_cwSW 4 hts gL_law_L_plot rfl rfl rfl (by decide +kernel) ⟨Nat.le_of_ble_eq_true rfl, Nat.le_of_ble_eq_true rfl⟩) hK hE hL hNe hNc rfl rfl hl rfl (Nat.le_of_ble_eq_true rfl) dL_law_925 ⟨(by show 22 + k * 1173 + 1 ≤ 601024; omega), (by show 397 + k * 14243 + 6 ≤ 7293034; omega)⟩ hS (fun k9 u H1 locs1 hok hW hz hS => ?_)
  have hq := q_plot hR v w
  obtain ⟨N1, C1, o1, hW, hR1, hth, hov⟩ := st_W (val := fun a => a.toInt64) hd_I hok hq.1 hW ((hq.2 C hR).mono (Nat.le_succ k)) (fun E hE9 => ⟨rfl, rfl⟩)
  refine lv_istore (lv' := [(5, .int k9), (4, .int (nI (4 * k))), (0, .ref b), (1, .ref (ad 0 0)), (2, .ref (ad 0 1)), (3, .ref (ad 0 2))]) hx hb dL_law_928 hl (by decide) rfl (fun ls hl => ?_)
  refine lv_aload_n hx hb dL_law_930 rfl (lv_at hl 4 rfl) ?_
  refine lv_aload_n hx hb dL_law_931 rfl (lv_at hl 2 rfl) ?_
  refine lv_iload hx hb dL_law_932 (lv_at hl 1 rfl) ?_
  refine lv_iconst (v := 1) hx hb dL_law_934 (by decide) ?_
  refine lv_iadd hx hb dL_law_935 ?_
  rw [show nI (4 * k) + 1 = nI (4 * k + 1) from nI_add _ _]
  refine va_sld hx hb hX hbl hbA hS (vp_in_nI (show 4 * k + 1 < L by omega) (by omega)) dL_law_936 ?_
  rw [← hv_v]
  refine lv_aload_n hx hb dL_law_937 rfl (lv_at hl 2 rfl) ?_
  refine lv_iload hx hb dL_law_938 (lv_at hl 1 rfl) ?_
  refine lv_iconst (v := 2) hx hb dL_law_940 (by decide) ?_
  refine lv_iadd hx hb dL_law_941 ?_
  rw [show nI (4 * k) + 2 = nI (4 * k + 2) from nI_add _ _]
  refine va_sld hx hb hX hbl hbA hS (vp_in_nI (show 4 * k + 2 < L by omega) (by omega)) dL_law_942 ?_
  rw [← hv_w]
  have hI := hR.im (by omega)
  refine g_wVi (As := [.int v, .int w]) (rest := []) (B := fun (_ : Unit) H => gW D (lwA s) ad (Wd G ad N1 C1 (s_X5_plot N M v w) o1) H) (mc := 0) (ms := 0) C0 (c_X5_plot l D G (lwA s) ad N1 C1 M o1 H1 hW N hI v w) (cwV 2 hts gL_law_X5_plot rfl rfl rfl (by decide +kernel) ⟨Nat.le_of_ble_eq_true rfl, Nat.le_of_ble_eq_true rfl⟩) hK (va_recv hK (hW.p rfl) (ci := 6) (q0 := 0) rfl rfl) rfl hl rfl (Nat.le_of_ble_eq_true rfl) dL_law_943 ⟨(by show 22 + k * 1173 + 1 + 0 ≤ 601024; omega), (by show 397 + k * 14243 + 6 + 0 ≤ 7293034; omega)⟩ hS (fun r8 u8 H2 locs2 hr8 hW hz hS => ?_)
  replace hr8 : r8 = (f_X5_plot N M v w) := hr8
  refine lv_istore (lv' := [(6, .int r8), (5, .int k9), (4, .int (nI (4 * k))), (0, .ref b), (1, .ref (ad 0 0)), (2, .ref (ad 0 1)), (3, .ref (ad 0 2))]) hx hb dL_law_946 hl (by decide) rfl (fun ls hl => ?_)
  refine lv_aload_n hx hb dL_law_948 rfl (lv_at hl 5 rfl) ?_
  refine g_Vi (As := []) (rest := []) C0 (c_X5_thrown l D G (lwA s) ad N1 C1 (s_X5_plot N M v w) o1 H2 hW) (cwV 0 hts gL_law_X5_thrown rfl rfl rfl (by decide +kernel) ⟨Nat.le_of_ble_eq_true rfl, Nat.le_of_ble_eq_true rfl⟩) hK (va_recv hK (hW.p rfl) (ci := 6) (q0 := 0) rfl rfl) rfl hl rfl (Nat.le_of_ble_eq_true rfl) dL_law_949 ⟨(by show 22 + k * 1173 + 1 + 0 ≤ 601024; omega), (by show 397 + k * 14243 + 6 + 0 ≤ 7293034; omega)⟩ hS (fun th locs3 hth3 hS => ?_)
  replace hth3 : th = k9 := hth3.trans hth
  subst th
  refine lv_iload hx hb dL_law_952 (lv_at hl 1 rfl) ?_
  refine lv_icmp_eq (tgt := 959) hx hb dL_law_954 (by decide) (fun _ => ?_) (fun c9 => absurd rfl c9)
  refine lv_iload hx hb dL_law_959 (lv_at hl 1 rfl) ?_
  refine lv_if_ne (tgt := 976) hx hb dL_law_961 (by decide) (fun c9 => ?_) (fun c9 => ?_)
  · refine lv_goto (tgt := 1406) hx hb dL_law_976 (by decide) ?_
    refine W.widen (k := 22 + (k + 1) * 1173) (n := 397 + (k + 1) * 14243) (by omega) (by omega) ?_
    have hl : lv_has ls 9 [(4, .int (nI (4 * k))), (0, .ref b), (1, .ref (ad 0 0)), (2, .ref (ad 0 1)), (3, .ref (ad 0 2))] := lv_sub hl [2, 3, 4, 5, 6] rfl
    exact nx ad N1 C1 (s_X5_plot N M v w) o1 _ _ _ hW hR1 (fun _ => rfl) hS hl
  · refine lv_aload_n hx hb dL_law_964 rfl (lv_at hl 6 rfl) ?_
    refine lv_iconst (v := 0) hx hb dL_law_965 (by decide) ?_
    refine g_lald (ad := ad) hx hb hK hW 1 (n := 1) (f := o1) rfl rfl (vp_in_nI (by decide : 0 < 1) (by decide)) dL_law_966 ?_
    have hv9 : o1 ((nI 0).toNatClampNeg) = (r8).toInt64 := by rw [hr8]; exact hov c9
    rw [show o1 ((0 : Int32).toNatClampNeg) = (r8).toInt64 from hv9]
    refine lv_iload hx hb dL_law_967 (lv_at hl 0 rfl) ?_
    refine lv_i2l (v := r8.toInt64) hx hb dL_law_969 rfl ?_
    refine W.lcmp hx hb dL_law_970 ?_
    refine lv_if_eq (tgt := 976) hx hb dL_law_971 (by decide) (fun _ => ?_) (fun c8 => absurd (lg_cmp_self _) c8)
    refine lv_goto (tgt := 1406) hx hb dL_law_976 (by decide) ?_
    refine W.widen (k := 22 + (k + 1) * 1173) (n := 397 + (k + 1) * 14243) (by omega) (by omega) ?_
    have hl : lv_has ls 9 [(4, .int (nI (4 * k))), (0, .ref b), (1, .ref (ad 0 0)), (2, .ref (ad 0 1)), (3, .ref (ad 0 2))] := lv_sub hl [2, 3, 4, 5, 6] rfl
    exact nx ad N1 C1 (s_X5_plot N M v w) o1 _ _ _ hW hR1 (fun _ => rfl) hS hl
set_option maxHeartbeats 4000000 in
set_option maxRecDepth 100000 in
theorem law_told {p : Program} {l : Launch} {e : Env} {s : State} {m : MethodId} {below : List Frame} {meth : Method} {c : Code} {b L : Nat} {xs : Nat → Int32} {D : va_G} {G : gG} {mi : Nat} (hLC : LC p l s m meth c b L xs D G mi) {k : Nat} (hk : 4 * k + 4 ≤ L) {ad : gAd} {N : gN} {C M : gT} {o : Nat → Int64} {H : Heap} {locs : List Loc} {ls : Array Slot} (hW : gW D (lwA s) ad (Wd G ad N C M o) H) (hR : Rel k N C M) (hS : va_S (lwA s) s.heap H locs) (hl : lv_has ls 9 [(4, .int (nI (4 * k))), (0, .ref b), (1, .ref (ad 0 0)), (2, .ref (ad 0 1)), (3, .ref (ad 0 2))]) (nx : ∀ (ad2 : gAd) (N2 : gN) (C2 M2 : gT) (o2 : Nat → Int64) (H2 : Heap) (locs2 : List Loc) (ls2 : Array Slot), gW D (lwA s) ad2 (Wd G ad2 N2 C2 M2 o2) H2 → Rel (k + 1) N2 C2 M2 → (∀ i, ad2 0 i = ad 0 i) → va_S (lwA s) s.heap H2 locs2 → lv_has ls2 9 [(4, .int (nI (4 * k))), (0, .ref b), (1, .ref (ad 0 0)), (2, .ref (ad 0 1)), (3, .ref (ad 0 2))] → W p l e room_1 s m #[Value.ref b] below meth c H2 locs2 (22 + (k + 1) * 1173) (397 + (k + 1) * 14243) (lw_Z below #[Value.ref b] s) (F0 m 1406 ls2 [])) : W p l e room_1 s m #[Value.ref b] below meth c H locs (22 + k * 1173) (397 + k * 14243) (lw_Z below #[Value.ref b] s) (F0 m 979 ls []) := by
  obtain ⟨hAt, hl0, hK, hE, hL, hNe, hNc, hL2⟩ := hLC
  obtain ⟨hx, hb, hrt, hml, hown, hts0, hX, hbl, hlocks, hgv⟩ := hAt
  have hown : s.vm.findClass RL = some m.cls := hown
  have hts : ∀ w ∈ wsL_law, w.before #[Value.ref b] s = true := fun w h => hts0 w (wsL_law_in w h)
  have C0 : CallFix p m c cL_law 9 s #[Value.ref b] wsL_law RL := ⟨hx, hb, hml, hown, hts⟩
  have hbA : ¬ lwA s b := Nat.not_le.mpr hbl
  have hA : ∀ q, H.size ≤ q → lwA s q := fun q h => Nat.le_trans hS.1 h
  have hk5 : k ≤ 511 := by omega
  obtain ⟨v, hv_v⟩ : ∃ y : Int32, y = (xs (nI (4 * k + 1)).toNatClampNeg) := ⟨_, rfl⟩
  obtain ⟨w, hv_w⟩ : ∃ y : Int32, y = (xs (nI (4 * k + 2)).toNatClampNeg) := ⟨_, rfl⟩
  refine lv_aload_n hx hb dL_law_979 rfl (lv_at hl 2 rfl) ?_
  refine lv_aload_n hx hb dL_law_980 rfl (lv_at hl 1 rfl) ?_
  refine lv_iload hx hb dL_law_981 (lv_at hl 0 rfl) ?_
  refine lv_iconst (v := 1) hx hb dL_law_983 (by decide) ?_
  refine lv_iadd hx hb dL_law_984 ?_
  rw [show nI (4 * k) + 1 = nI (4 * k + 1) from nI_add _ _]
  refine va_sld hx hb hX hbl hbA hS (vp_in_nI (show 4 * k + 1 < L by omega) (by omega)) dL_law_985 ?_
  rw [← hv_v]
  refine lv_aload_n hx hb dL_law_986 rfl (lv_at hl 1 rfl) ?_
  refine lv_iload hx hb dL_law_987 (lv_at hl 0 rfl) ?_
  refine lv_iconst (v := 2) hx hb dL_law_989 (by decide) ?_
  refine lv_iadd hx hb dL_law_990 ?_
  rw [show nI (4 * k) + 2 = nI (4 * k + 2) from nI_add _ _]
  refine va_sld hx hb hX hbl hbA hS (vp_in_nI (show 4 * k + 2 < L by omega) (by omega)) dL_law_991 ?_
  rw [← hv_w]
  refine lv_aload_n hx hb dL_law_992 rfl (lv_at hl 4 rfl) ?_
  have hM9 := c_L_told l D G (lwA s) ad N C M o H hW hl0 hR.ic mi v w
  refine g_ZSi (As := [.ref (ad 0 0), .int v, .int w, .ref (ad 0 2)]) (rest := []) (post := fun (r : Int32) (_ : Unit) => okW oI (f_X4_told C N v w) r) (B := fun (_ : Unit) H => gW D (lwA s) ad (oW (f_X4_told C N v w) (fun a => Wd G ad N C M (oL o a.toInt64)) (Wd G ad N C M o)) H) (mc := 1) (ms := 6) C0 hM9 (vx_cwSW 4 hts gL_law_L_told rfl rfl rfl (by decide +kernel) ⟨Nat.le_of_ble_eq_true rfl, Nat.le_of_ble_eq_true rfl⟩) hK hE hL hNe hNc rfl rfl hl rfl (Nat.le_of_ble_eq_true rfl) dL_law_993 ⟨(by show 22 + k * 1173 + 1 ≤ 601024; omega), (by show 397 + k * 14243 + 6 ≤ 7293034; omega)⟩ hS (fun k9 u H1 locs1 hok hW hz hS => ?_)
  have hq := q_told hR v w
  obtain ⟨N1, C1, o1, hW, hR1, hth, hov⟩ := st_W (val := fun a => a.toInt64) hd_I hok hq.1 hW ((hq.2 C hR).mono (Nat.le_succ k)) (fun E hE9 => ⟨rfl, rfl⟩)
  refine lv_istore (lv' := [(5, .int k9), (4, .int (nI (4 * k))), (0, .ref b), (1, .ref (ad 0 0)), (2, .ref (ad 0 1)), (3, .ref (ad 0 2))]) hx hb dL_law_996 hl (by decide) rfl (fun ls hl => ?_)
  refine lv_aload_n hx hb dL_law_998 rfl (lv_at hl 4 rfl) ?_
  refine lv_aload_n hx hb dL_law_999 rfl (lv_at hl 2 rfl) ?_
  refine lv_iload hx hb dL_law_1000 (lv_at hl 1 rfl) ?_
  refine lv_iconst (v := 1) hx hb dL_law_1002 (by decide) ?_
  refine lv_iadd hx hb dL_law_1003 ?_
  rw [show nI (4 * k) + 1 = nI (4 * k + 1) from nI_add _ _]
  refine va_sld hx hb hX hbl hbA hS (vp_in_nI (show 4 * k + 1 < L by omega) (by omega)) dL_law_1004 ?_
  rw [← hv_v]
  refine lv_aload_n hx hb dL_law_1005 rfl (lv_at hl 2 rfl) ?_
  refine lv_iload hx hb dL_law_1006 (lv_at hl 1 rfl) ?_
  refine lv_iconst (v := 2) hx hb dL_law_1008 (by decide) ?_
  refine lv_iadd hx hb dL_law_1009 ?_
  rw [show nI (4 * k) + 2 = nI (4 * k + 2) from nI_add _ _]
  refine va_sld hx hb hX hbl hbA hS (vp_in_nI (show 4 * k + 2 < L by omega) (by omega)) dL_law_1010 ?_
  rw [← hv_w]
  have hI := hR.im (by omega)
  refine g_wVi (As := [.int v, .int w]) (rest := []) (B := fun (_ : Unit) H => gW D (lwA s) ad (Wd G ad N1 C1 (s_X5_told N M v w) o1) H) (mc := 0) (ms := 0) C0 (c_X5_told l D G (lwA s) ad N1 C1 M o1 H1 hW N hI v w) (cwV 2 hts gL_law_X5_told rfl rfl rfl (by decide +kernel) ⟨Nat.le_of_ble_eq_true rfl, Nat.le_of_ble_eq_true rfl⟩) hK (va_recv hK (hW.p rfl) (ci := 6) (q0 := 0) rfl rfl) rfl hl rfl (Nat.le_of_ble_eq_true rfl) dL_law_1011 ⟨(by show 22 + k * 1173 + 1 + 0 ≤ 601024; omega), (by show 397 + k * 14243 + 6 + 0 ≤ 7293034; omega)⟩ hS (fun r8 u8 H2 locs2 hr8 hW hz hS => ?_)
  replace hr8 : r8 = (f_X5_told N M v w) := hr8
  refine lv_istore (lv' := [(6, .int r8), (5, .int k9), (4, .int (nI (4 * k))), (0, .ref b), (1, .ref (ad 0 0)), (2, .ref (ad 0 1)), (3, .ref (ad 0 2))]) hx hb dL_law_1014 hl (by decide) rfl (fun ls hl => ?_)
  refine lv_aload_n hx hb dL_law_1016 rfl (lv_at hl 5 rfl) ?_
  refine g_Vi (As := []) (rest := []) C0 (c_X5_thrown l D G (lwA s) ad N1 C1 (s_X5_told N M v w) o1 H2 hW) (cwV 0 hts gL_law_X5_thrown rfl rfl rfl (by decide +kernel) ⟨Nat.le_of_ble_eq_true rfl, Nat.le_of_ble_eq_true rfl⟩) hK (va_recv hK (hW.p rfl) (ci := 6) (q0 := 0) rfl rfl) rfl hl rfl (Nat.le_of_ble_eq_true rfl) dL_law_1017 ⟨(by show 22 + k * 1173 + 1 + 0 ≤ 601024; omega), (by show 397 + k * 14243 + 6 + 0 ≤ 7293034; omega)⟩ hS (fun th locs3 hth3 hS => ?_)
  replace hth3 : th = k9 := hth3.trans hth
  subst th
  refine lv_iload hx hb dL_law_1020 (lv_at hl 1 rfl) ?_
  refine lv_icmp_eq (tgt := 1027) hx hb dL_law_1022 (by decide) (fun _ => ?_) (fun c9 => absurd rfl c9)
  refine lv_iload hx hb dL_law_1027 (lv_at hl 1 rfl) ?_
  refine lv_if_ne (tgt := 1044) hx hb dL_law_1029 (by decide) (fun c9 => ?_) (fun c9 => ?_)
  · refine lv_goto (tgt := 1406) hx hb dL_law_1044 (by decide) ?_
    refine W.widen (k := 22 + (k + 1) * 1173) (n := 397 + (k + 1) * 14243) (by omega) (by omega) ?_
    have hl : lv_has ls 9 [(4, .int (nI (4 * k))), (0, .ref b), (1, .ref (ad 0 0)), (2, .ref (ad 0 1)), (3, .ref (ad 0 2))] := lv_sub hl [2, 3, 4, 5, 6] rfl
    exact nx ad N1 C1 (s_X5_told N M v w) o1 _ _ _ hW hR1 (fun _ => rfl) hS hl
  · refine lv_aload_n hx hb dL_law_1032 rfl (lv_at hl 6 rfl) ?_
    refine lv_iconst (v := 0) hx hb dL_law_1033 (by decide) ?_
    refine g_lald (ad := ad) hx hb hK hW 1 (n := 1) (f := o1) rfl rfl (vp_in_nI (by decide : 0 < 1) (by decide)) dL_law_1034 ?_
    have hv9 : o1 ((nI 0).toNatClampNeg) = (r8).toInt64 := by rw [hr8]; exact hov c9
    rw [show o1 ((0 : Int32).toNatClampNeg) = (r8).toInt64 from hv9]
    refine lv_iload hx hb dL_law_1035 (lv_at hl 0 rfl) ?_
    refine lv_i2l (v := r8.toInt64) hx hb dL_law_1037 rfl ?_
    refine W.lcmp hx hb dL_law_1038 ?_
    refine lv_if_eq (tgt := 1044) hx hb dL_law_1039 (by decide) (fun _ => ?_) (fun c8 => absurd (lg_cmp_self _) c8)
    refine lv_goto (tgt := 1406) hx hb dL_law_1044 (by decide) ?_
    refine W.widen (k := 22 + (k + 1) * 1173) (n := 397 + (k + 1) * 14243) (by omega) (by omega) ?_
    have hl : lv_has ls 9 [(4, .int (nI (4 * k))), (0, .ref b), (1, .ref (ad 0 0)), (2, .ref (ad 0 1)), (3, .ref (ad 0 2))] := lv_sub hl [2, 3, 4, 5, 6] rfl
    exact nx ad N1 C1 (s_X5_told N M v w) o1 _ _ _ hW hR1 (fun _ => rfl) hS hl
set_option maxHeartbeats 4000000 in
set_option maxRecDepth 100000 in
theorem law_count {p : Program} {l : Launch} {e : Env} {s : State} {m : MethodId} {below : List Frame} {meth : Method} {c : Code} {b L : Nat} {xs : Nat → Int32} {D : va_G} {G : gG} {mi : Nat} (hLC : LC p l s m meth c b L xs D G mi) {k : Nat} (hk : 4 * k + 4 ≤ L) {ad : gAd} {N : gN} {C M : gT} {o : Nat → Int64} {H : Heap} {locs : List Loc} {ls : Array Slot} (hW : gW D (lwA s) ad (Wd G ad N C M o) H) (hR : Rel k N C M) (hS : va_S (lwA s) s.heap H locs) (hl : lv_has ls 9 [(4, .int (nI (4 * k))), (0, .ref b), (1, .ref (ad 0 0)), (2, .ref (ad 0 1)), (3, .ref (ad 0 2))]) (nx : ∀ (ad2 : gAd) (N2 : gN) (C2 M2 : gT) (o2 : Nat → Int64) (H2 : Heap) (locs2 : List Loc) (ls2 : Array Slot), gW D (lwA s) ad2 (Wd G ad2 N2 C2 M2 o2) H2 → Rel (k + 1) N2 C2 M2 → (∀ i, ad2 0 i = ad 0 i) → va_S (lwA s) s.heap H2 locs2 → lv_has ls2 9 [(4, .int (nI (4 * k))), (0, .ref b), (1, .ref (ad 0 0)), (2, .ref (ad 0 1)), (3, .ref (ad 0 2))] → W p l e room_1 s m #[Value.ref b] below meth c H2 locs2 (22 + (k + 1) * 1173) (397 + (k + 1) * 14243) (lw_Z below #[Value.ref b] s) (F0 m 1406 ls2 [])) : W p l e room_1 s m #[Value.ref b] below meth c H locs (22 + k * 1173) (397 + k * 14243) (lw_Z below #[Value.ref b] s) (F0 m 1047 ls []) := by
  obtain ⟨hAt, hl0, hK, hE, hL, hNe, hNc, hL2⟩ := hLC
  obtain ⟨hx, hb, hrt, hml, hown, hts0, hX, hbl, hlocks, hgv⟩ := hAt
  have hown : s.vm.findClass RL = some m.cls := hown
  have hts : ∀ w ∈ wsL_law, w.before #[Value.ref b] s = true := fun w h => hts0 w (wsL_law_in w h)
  have C0 : CallFix p m c cL_law 9 s #[Value.ref b] wsL_law RL := ⟨hx, hb, hml, hown, hts⟩
  have hbA : ¬ lwA s b := Nat.not_le.mpr hbl
  have hA : ∀ q, H.size ≤ q → lwA s q := fun q h => Nat.le_trans hS.1 h
  have hk5 : k ≤ 511 := by omega
  obtain ⟨v, hv_v⟩ : ∃ y : Int32, y = (xs (nI (4 * k + 1)).toNatClampNeg) := ⟨_, rfl⟩
  refine lv_aload_n hx hb dL_law_1047 rfl (lv_at hl 2 rfl) ?_
  refine lv_aload_n hx hb dL_law_1048 rfl (lv_at hl 1 rfl) ?_
  refine lv_iload hx hb dL_law_1049 (lv_at hl 0 rfl) ?_
  refine lv_iconst (v := 1) hx hb dL_law_1051 (by decide) ?_
  refine lv_iadd hx hb dL_law_1052 ?_
  rw [show nI (4 * k) + 1 = nI (4 * k + 1) from nI_add _ _]
  refine va_sld hx hb hX hbl hbA hS (vp_in_nI (show 4 * k + 1 < L by omega) (by omega)) dL_law_1053 ?_
  rw [← hv_v]
  refine lv_aload_n hx hb dL_law_1054 rfl (lv_at hl 4 rfl) ?_
  have hM9 := c_L_count l D G (lwA s) ad N C M o H hW hl0 hR.ic mi v
  refine g_ZSi (As := [.ref (ad 0 0), .int v, .ref (ad 0 2)]) (rest := []) (post := fun (r : Int32) (_ : Unit) => okW oI (f_X4_count C N v) r) (B := fun (_ : Unit) H => gW D (lwA s) ad (oW (f_X4_count C N v) (fun a => Wd G ad N C M (oL o a.toInt64)) (Wd G ad N C M o)) H) (mc := 1) (ms := 6) C0 hM9 (vx_cwSW 3 hts gL_law_L_count rfl rfl rfl (by decide +kernel) ⟨Nat.le_of_ble_eq_true rfl, Nat.le_of_ble_eq_true rfl⟩) hK hE hL hNe hNc rfl rfl hl rfl (Nat.le_of_ble_eq_true rfl) dL_law_1055 ⟨(by show 22 + k * 1173 + 1 ≤ 601024; omega), (by show 397 + k * 14243 + 6 ≤ 7293034; omega)⟩ hS (fun k9 u H1 locs1 hok hW hz hS => ?_)
  have hq := q_count hR v
  obtain ⟨N1, C1, o1, hW, hR1, hth, hov⟩ := st_W (val := fun a => a.toInt64) hd_I hok hq.1 hW ((hq.2 C hR).mono (Nat.le_succ k)) (fun E hE9 => ⟨rfl, rfl⟩)
  refine lv_istore (lv' := [(5, .int k9), (4, .int (nI (4 * k))), (0, .ref b), (1, .ref (ad 0 0)), (2, .ref (ad 0 1)), (3, .ref (ad 0 2))]) hx hb dL_law_1058 hl (by decide) rfl (fun ls hl => ?_)
  refine lv_aload_n hx hb dL_law_1060 rfl (lv_at hl 4 rfl) ?_
  refine lv_aload_n hx hb dL_law_1061 rfl (lv_at hl 2 rfl) ?_
  refine lv_iload hx hb dL_law_1062 (lv_at hl 1 rfl) ?_
  refine lv_iconst (v := 1) hx hb dL_law_1064 (by decide) ?_
  refine lv_iadd hx hb dL_law_1065 ?_
  rw [show nI (4 * k) + 1 = nI (4 * k + 1) from nI_add _ _]
  refine va_sld hx hb hX hbl hbA hS (vp_in_nI (show 4 * k + 1 < L by omega) (by omega)) dL_law_1066 ?_
  rw [← hv_v]
  have hI := hR.im (by omega)
  refine g_wVi (As := [.int v]) (rest := []) (B := fun (_ : Unit) H => gW D (lwA s) ad (Wd G ad N1 C1 (s_X5_count N M v) o1) H) (mc := 1) (ms := 11) C0 (c_X5_count l D G (lwA s) ad N1 C1 M o1 H1 hW (fun q h => Nat.le_trans hS.1 h) N hI v) (cwV 1 hts gL_law_X5_count rfl rfl rfl (by decide +kernel) ⟨Nat.le_of_ble_eq_true rfl, Nat.le_of_ble_eq_true rfl⟩) hK (va_recv hK (hW.p rfl) (ci := 6) (q0 := 0) rfl rfl) rfl hl rfl (Nat.le_of_ble_eq_true rfl) dL_law_1067 ⟨(by show 22 + k * 1173 + 1 + 1 ≤ 601024; omega), (by show 397 + k * 14243 + 6 + 11 ≤ 7293034; omega)⟩ hS (fun r8 u8 H2 locs2 hr8 hW hz hS => ?_)
  replace hr8 : r8 = (f_X5_count N M v) := hr8
  refine lv_istore (lv' := [(6, .int r8), (5, .int k9), (4, .int (nI (4 * k))), (0, .ref b), (1, .ref (ad 0 0)), (2, .ref (ad 0 1)), (3, .ref (ad 0 2))]) hx hb dL_law_1070 hl (by decide) rfl (fun ls hl => ?_)
  refine lv_aload_n hx hb dL_law_1072 rfl (lv_at hl 5 rfl) ?_
  refine g_Vi (As := []) (rest := []) C0 (c_X5_thrown l D G (lwA s) ad N1 C1 (s_X5_count N M v) o1 H2 hW) (cwV 0 hts gL_law_X5_thrown rfl rfl rfl (by decide +kernel) ⟨Nat.le_of_ble_eq_true rfl, Nat.le_of_ble_eq_true rfl⟩) hK (va_recv hK (hW.p rfl) (ci := 6) (q0 := 0) rfl rfl) rfl hl rfl (Nat.le_of_ble_eq_true rfl) dL_law_1073 ⟨(by show 22 + k * 1173 + 1 + 1 ≤ 601024; omega), (by show 397 + k * 14243 + 6 + 11 ≤ 7293034; omega)⟩ hS (fun th locs3 hth3 hS => ?_)
  replace hth3 : th = k9 := hth3.trans hth
  subst th
  refine lv_iload hx hb dL_law_1076 (lv_at hl 1 rfl) ?_
  refine lv_icmp_eq (tgt := 1083) hx hb dL_law_1078 (by decide) (fun _ => ?_) (fun c9 => absurd rfl c9)
  refine lv_iload hx hb dL_law_1083 (lv_at hl 1 rfl) ?_
  refine lv_if_ne (tgt := 1100) hx hb dL_law_1085 (by decide) (fun c9 => ?_) (fun c9 => ?_)
  · refine lv_goto (tgt := 1406) hx hb dL_law_1100 (by decide) ?_
    refine W.widen (k := 22 + (k + 1) * 1173) (n := 397 + (k + 1) * 14243) (by omega) (by omega) ?_
    have hl : lv_has ls 9 [(4, .int (nI (4 * k))), (0, .ref b), (1, .ref (ad 0 0)), (2, .ref (ad 0 1)), (3, .ref (ad 0 2))] := lv_sub hl [2, 3, 4, 5, 6] rfl
    exact nx ad N1 C1 (s_X5_count N M v) o1 _ _ _ hW hR1 (fun _ => rfl) hS hl
  · refine lv_aload_n hx hb dL_law_1088 rfl (lv_at hl 6 rfl) ?_
    refine lv_iconst (v := 0) hx hb dL_law_1089 (by decide) ?_
    refine g_lald (ad := ad) hx hb hK hW 1 (n := 1) (f := o1) rfl rfl (vp_in_nI (by decide : 0 < 1) (by decide)) dL_law_1090 ?_
    have hv9 : o1 ((nI 0).toNatClampNeg) = (r8).toInt64 := by rw [hr8]; exact hov c9
    rw [show o1 ((0 : Int32).toNatClampNeg) = (r8).toInt64 from hv9]
    refine lv_iload hx hb dL_law_1091 (lv_at hl 0 rfl) ?_
    refine lv_i2l (v := r8.toInt64) hx hb dL_law_1093 rfl ?_
    refine W.lcmp hx hb dL_law_1094 ?_
    refine lv_if_eq (tgt := 1100) hx hb dL_law_1095 (by decide) (fun _ => ?_) (fun c8 => absurd (lg_cmp_self _) c8)
    refine lv_goto (tgt := 1406) hx hb dL_law_1100 (by decide) ?_
    refine W.widen (k := 22 + (k + 1) * 1173) (n := 397 + (k + 1) * 14243) (by omega) (by omega) ?_
    have hl : lv_has ls 9 [(4, .int (nI (4 * k))), (0, .ref b), (1, .ref (ad 0 0)), (2, .ref (ad 0 1)), (3, .ref (ad 0 2))] := lv_sub hl [2, 3, 4, 5, 6] rfl
    exact nx ad N1 C1 (s_X5_count N M v) o1 _ _ _ hW hR1 (fun _ => rfl) hS hl
set_option maxHeartbeats 4000000 in
set_option maxRecDepth 100000 in
theorem law_worth {p : Program} {l : Launch} {e : Env} {s : State} {m : MethodId} {below : List Frame} {meth : Method} {c : Code} {b L : Nat} {xs : Nat → Int32} {D : va_G} {G : gG} {mi : Nat} (hLC : LC p l s m meth c b L xs D G mi) {k : Nat} (hk : 4 * k + 4 ≤ L) {ad : gAd} {N : gN} {C M : gT} {o : Nat → Int64} {H : Heap} {locs : List Loc} {ls : Array Slot} (hW : gW D (lwA s) ad (Wd G ad N C M o) H) (hR : Rel k N C M) (hS : va_S (lwA s) s.heap H locs) (hl : lv_has ls 9 [(4, .int (nI (4 * k))), (0, .ref b), (1, .ref (ad 0 0)), (2, .ref (ad 0 1)), (3, .ref (ad 0 2))]) (nx : ∀ (ad2 : gAd) (N2 : gN) (C2 M2 : gT) (o2 : Nat → Int64) (H2 : Heap) (locs2 : List Loc) (ls2 : Array Slot), gW D (lwA s) ad2 (Wd G ad2 N2 C2 M2 o2) H2 → Rel (k + 1) N2 C2 M2 → (∀ i, ad2 0 i = ad 0 i) → va_S (lwA s) s.heap H2 locs2 → lv_has ls2 9 [(4, .int (nI (4 * k))), (0, .ref b), (1, .ref (ad 0 0)), (2, .ref (ad 0 1)), (3, .ref (ad 0 2))] → W p l e room_1 s m #[Value.ref b] below meth c H2 locs2 (22 + (k + 1) * 1173) (397 + (k + 1) * 14243) (lw_Z below #[Value.ref b] s) (F0 m 1406 ls2 [])) : W p l e room_1 s m #[Value.ref b] below meth c H locs (22 + k * 1173) (397 + k * 14243) (lw_Z below #[Value.ref b] s) (F0 m 1103 ls []) := by
  obtain ⟨hAt, hl0, hK, hE, hL, hNe, hNc, hL2⟩ := hLC
  obtain ⟨hx, hb, hrt, hml, hown, hts0, hX, hbl, hlocks, hgv⟩ := hAt
  have hown : s.vm.findClass RL = some m.cls := hown
  have hts : ∀ w ∈ wsL_law, w.before #[Value.ref b] s = true := fun w h => hts0 w (wsL_law_in w h)
  have C0 : CallFix p m c cL_law 9 s #[Value.ref b] wsL_law RL := ⟨hx, hb, hml, hown, hts⟩
  have hbA : ¬ lwA s b := Nat.not_le.mpr hbl
  have hA : ∀ q, H.size ≤ q → lwA s q := fun q h => Nat.le_trans hS.1 h
  have hk5 : k ≤ 511 := by omega
  obtain ⟨v, hv_v⟩ : ∃ y : Int32, y = (xs (nI (4 * k + 1)).toNatClampNeg) := ⟨_, rfl⟩
  obtain ⟨w, hv_w⟩ : ∃ y : Int32, y = (xs (nI (4 * k + 2)).toNatClampNeg) := ⟨_, rfl⟩
  refine lv_aload_n hx hb dL_law_1103 rfl (lv_at hl 2 rfl) ?_
  refine lv_aload_n hx hb dL_law_1104 rfl (lv_at hl 1 rfl) ?_
  refine lv_iload hx hb dL_law_1105 (lv_at hl 0 rfl) ?_
  refine lv_iconst (v := 1) hx hb dL_law_1107 (by decide) ?_
  refine lv_iadd hx hb dL_law_1108 ?_
  rw [show nI (4 * k) + 1 = nI (4 * k + 1) from nI_add _ _]
  refine va_sld hx hb hX hbl hbA hS (vp_in_nI (show 4 * k + 1 < L by omega) (by omega)) dL_law_1109 ?_
  rw [← hv_v]
  refine lv_aload_n hx hb dL_law_1110 rfl (lv_at hl 1 rfl) ?_
  refine lv_iload hx hb dL_law_1111 (lv_at hl 0 rfl) ?_
  refine lv_iconst (v := 2) hx hb dL_law_1113 (by decide) ?_
  refine lv_iadd hx hb dL_law_1114 ?_
  rw [show nI (4 * k) + 2 = nI (4 * k + 2) from nI_add _ _]
  refine va_sld hx hb hX hbl hbA hS (vp_in_nI (show 4 * k + 2 < L by omega) (by omega)) dL_law_1115 ?_
  rw [← hv_w]
  refine lv_aload_n hx hb dL_law_1116 rfl (lv_at hl 4 rfl) ?_
  have hM9 := c_L_worth l D G (lwA s) ad N C M o H hW hl0 hR.ic mi v w
  refine g_ZSi (As := [.ref (ad 0 0), .int v, .int w, .ref (ad 0 2)]) (rest := []) (post := fun (r : Int32) (_ : Unit) => okW oI (f_X4_worth C N v w) r) (B := fun (_ : Unit) H => gW D (lwA s) ad (oW (f_X4_worth C N v w) (fun a => Wd G ad N C M (oL o a.toInt64)) (Wd G ad N C M o)) H) (mc := 1) (ms := 6) C0 hM9 (vx_cwSW 4 hts gL_law_L_worth rfl rfl rfl (by decide +kernel) ⟨Nat.le_of_ble_eq_true rfl, Nat.le_of_ble_eq_true rfl⟩) hK hE hL hNe hNc rfl rfl hl rfl (Nat.le_of_ble_eq_true rfl) dL_law_1117 ⟨(by show 22 + k * 1173 + 1 ≤ 601024; omega), (by show 397 + k * 14243 + 6 ≤ 7293034; omega)⟩ hS (fun k9 u H1 locs1 hok hW hz hS => ?_)
  have hq := q_worth hR (by omega) v w
  obtain ⟨N1, C1, o1, hW, hR1, hth, hov⟩ := st_W (val := fun a => a.toInt64) hd_I hok hq.1 hW ((hq.2 C hR).mono (Nat.le_succ k)) (fun E hE9 => ⟨rfl, rfl⟩)
  refine lv_istore (lv' := [(5, .int k9), (4, .int (nI (4 * k))), (0, .ref b), (1, .ref (ad 0 0)), (2, .ref (ad 0 1)), (3, .ref (ad 0 2))]) hx hb dL_law_1120 hl (by decide) rfl (fun ls hl => ?_)
  refine lv_aload_n hx hb dL_law_1122 rfl (lv_at hl 4 rfl) ?_
  refine lv_aload_n hx hb dL_law_1123 rfl (lv_at hl 2 rfl) ?_
  refine lv_iload hx hb dL_law_1124 (lv_at hl 1 rfl) ?_
  refine lv_iconst (v := 1) hx hb dL_law_1126 (by decide) ?_
  refine lv_iadd hx hb dL_law_1127 ?_
  rw [show nI (4 * k) + 1 = nI (4 * k + 1) from nI_add _ _]
  refine va_sld hx hb hX hbl hbA hS (vp_in_nI (show 4 * k + 1 < L by omega) (by omega)) dL_law_1128 ?_
  rw [← hv_v]
  refine lv_aload_n hx hb dL_law_1129 rfl (lv_at hl 2 rfl) ?_
  refine lv_iload hx hb dL_law_1130 (lv_at hl 1 rfl) ?_
  refine lv_iconst (v := 2) hx hb dL_law_1132 (by decide) ?_
  refine lv_iadd hx hb dL_law_1133 ?_
  rw [show nI (4 * k) + 2 = nI (4 * k + 2) from nI_add _ _]
  refine va_sld hx hb hX hbl hbA hS (vp_in_nI (show 4 * k + 2 < L by omega) (by omega)) dL_law_1134 ?_
  rw [← hv_w]
  have hI := hR.im (by omega)
  refine g_wVi (As := [.int v, .int w]) (rest := []) (B := fun (_ : Unit) H => gW D (lwA s) ad (Wd G ad N1 C1 (s_X5_worth N M v w) o1) H) (mc := 0) (ms := 0) C0 (c_X5_worth l D G (lwA s) ad N1 C1 M o1 H1 hW N hI v w) (cwV 2 hts gL_law_X5_worth rfl rfl rfl (by decide +kernel) ⟨Nat.le_of_ble_eq_true rfl, Nat.le_of_ble_eq_true rfl⟩) hK (va_recv hK (hW.p rfl) (ci := 6) (q0 := 0) rfl rfl) rfl hl rfl (Nat.le_of_ble_eq_true rfl) dL_law_1135 ⟨(by show 22 + k * 1173 + 1 + 0 ≤ 601024; omega), (by show 397 + k * 14243 + 6 + 0 ≤ 7293034; omega)⟩ hS (fun r8 u8 H2 locs2 hr8 hW hz hS => ?_)
  replace hr8 : r8 = (f_X5_worth N M v w) := hr8
  refine lv_istore (lv' := [(6, .int r8), (5, .int k9), (4, .int (nI (4 * k))), (0, .ref b), (1, .ref (ad 0 0)), (2, .ref (ad 0 1)), (3, .ref (ad 0 2))]) hx hb dL_law_1138 hl (by decide) rfl (fun ls hl => ?_)
  refine lv_aload_n hx hb dL_law_1140 rfl (lv_at hl 5 rfl) ?_
  refine g_Vi (As := []) (rest := []) C0 (c_X5_thrown l D G (lwA s) ad N1 C1 (s_X5_worth N M v w) o1 H2 hW) (cwV 0 hts gL_law_X5_thrown rfl rfl rfl (by decide +kernel) ⟨Nat.le_of_ble_eq_true rfl, Nat.le_of_ble_eq_true rfl⟩) hK (va_recv hK (hW.p rfl) (ci := 6) (q0 := 0) rfl rfl) rfl hl rfl (Nat.le_of_ble_eq_true rfl) dL_law_1141 ⟨(by show 22 + k * 1173 + 1 + 0 ≤ 601024; omega), (by show 397 + k * 14243 + 6 + 0 ≤ 7293034; omega)⟩ hS (fun th locs3 hth3 hS => ?_)
  replace hth3 : th = k9 := hth3.trans hth
  subst th
  refine lv_iload hx hb dL_law_1144 (lv_at hl 1 rfl) ?_
  refine lv_icmp_eq (tgt := 1151) hx hb dL_law_1146 (by decide) (fun _ => ?_) (fun c9 => absurd rfl c9)
  refine lv_iload hx hb dL_law_1151 (lv_at hl 1 rfl) ?_
  refine lv_if_ne (tgt := 1168) hx hb dL_law_1153 (by decide) (fun c9 => ?_) (fun c9 => ?_)
  · refine lv_goto (tgt := 1406) hx hb dL_law_1168 (by decide) ?_
    refine W.widen (k := 22 + (k + 1) * 1173) (n := 397 + (k + 1) * 14243) (by omega) (by omega) ?_
    have hl : lv_has ls 9 [(4, .int (nI (4 * k))), (0, .ref b), (1, .ref (ad 0 0)), (2, .ref (ad 0 1)), (3, .ref (ad 0 2))] := lv_sub hl [2, 3, 4, 5, 6] rfl
    exact nx ad N1 C1 (s_X5_worth N M v w) o1 _ _ _ hW hR1 (fun _ => rfl) hS hl
  · refine lv_aload_n hx hb dL_law_1156 rfl (lv_at hl 6 rfl) ?_
    refine lv_iconst (v := 0) hx hb dL_law_1157 (by decide) ?_
    refine g_lald (ad := ad) hx hb hK hW 1 (n := 1) (f := o1) rfl rfl (vp_in_nI (by decide : 0 < 1) (by decide)) dL_law_1158 ?_
    have hv9 : o1 ((nI 0).toNatClampNeg) = (r8).toInt64 := by rw [hr8]; exact hov c9
    rw [show o1 ((0 : Int32).toNatClampNeg) = (r8).toInt64 from hv9]
    refine lv_iload hx hb dL_law_1159 (lv_at hl 0 rfl) ?_
    refine lv_i2l (v := r8.toInt64) hx hb dL_law_1161 rfl ?_
    refine W.lcmp hx hb dL_law_1162 ?_
    refine lv_if_eq (tgt := 1168) hx hb dL_law_1163 (by decide) (fun _ => ?_) (fun c8 => absurd (lg_cmp_self _) c8)
    refine lv_goto (tgt := 1406) hx hb dL_law_1168 (by decide) ?_
    refine W.widen (k := 22 + (k + 1) * 1173) (n := 397 + (k + 1) * 14243) (by omega) (by omega) ?_
    have hl : lv_has ls 9 [(4, .int (nI (4 * k))), (0, .ref b), (1, .ref (ad 0 0)), (2, .ref (ad 0 1)), (3, .ref (ad 0 2))] := lv_sub hl [2, 3, 4, 5, 6] rfl
    exact nx ad N1 C1 (s_X5_worth N M v w) o1 _ _ _ hW hR1 (fun _ => rfl) hS hl
set_option maxHeartbeats 4000000 in
set_option maxRecDepth 100000 in
theorem law_best {p : Program} {l : Launch} {e : Env} {s : State} {m : MethodId} {below : List Frame} {meth : Method} {c : Code} {b L : Nat} {xs : Nat → Int32} {D : va_G} {G : gG} {mi : Nat} (hLC : LC p l s m meth c b L xs D G mi) {k : Nat} (hk : 4 * k + 4 ≤ L) {ad : gAd} {N : gN} {C M : gT} {o : Nat → Int64} {H : Heap} {locs : List Loc} {ls : Array Slot} (hW : gW D (lwA s) ad (Wd G ad N C M o) H) (hR : Rel k N C M) (hS : va_S (lwA s) s.heap H locs) (hl : lv_has ls 9 [(4, .int (nI (4 * k))), (0, .ref b), (1, .ref (ad 0 0)), (2, .ref (ad 0 1)), (3, .ref (ad 0 2))]) (nx : ∀ (ad2 : gAd) (N2 : gN) (C2 M2 : gT) (o2 : Nat → Int64) (H2 : Heap) (locs2 : List Loc) (ls2 : Array Slot), gW D (lwA s) ad2 (Wd G ad2 N2 C2 M2 o2) H2 → Rel (k + 1) N2 C2 M2 → (∀ i, ad2 0 i = ad 0 i) → va_S (lwA s) s.heap H2 locs2 → lv_has ls2 9 [(4, .int (nI (4 * k))), (0, .ref b), (1, .ref (ad 0 0)), (2, .ref (ad 0 1)), (3, .ref (ad 0 2))] → W p l e room_1 s m #[Value.ref b] below meth c H2 locs2 (22 + (k + 1) * 1173) (397 + (k + 1) * 14243) (lw_Z below #[Value.ref b] s) (F0 m 1406 ls2 [])) : W p l e room_1 s m #[Value.ref b] below meth c H locs (22 + k * 1173) (397 + k * 14243) (lw_Z below #[Value.ref b] s) (F0 m 1171 ls []) := by
  obtain ⟨hAt, hl0, hK, hE, hL, hNe, hNc, hL2⟩ := hLC
  obtain ⟨hx, hb, hrt, hml, hown, hts0, hX, hbl, hlocks, hgv⟩ := hAt
  have hown : s.vm.findClass RL = some m.cls := hown
  have hts : ∀ w ∈ wsL_law, w.before #[Value.ref b] s = true := fun w h => hts0 w (wsL_law_in w h)
  have C0 : CallFix p m c cL_law 9 s #[Value.ref b] wsL_law RL := ⟨hx, hb, hml, hown, hts⟩
  have hbA : ¬ lwA s b := Nat.not_le.mpr hbl
  have hA : ∀ q, H.size ≤ q → lwA s q := fun q h => Nat.le_trans hS.1 h
  have hk5 : k ≤ 511 := by omega
  obtain ⟨v, hv_v⟩ : ∃ y : Int32, y = (xs (nI (4 * k + 1)).toNatClampNeg) := ⟨_, rfl⟩
  obtain ⟨w, hv_w⟩ : ∃ y : Int32, y = (xs (nI (4 * k + 2)).toNatClampNeg) := ⟨_, rfl⟩
  refine lv_aload_n hx hb dL_law_1171 rfl (lv_at hl 2 rfl) ?_
  refine lv_aload_n hx hb dL_law_1172 rfl (lv_at hl 1 rfl) ?_
  refine lv_iload hx hb dL_law_1173 (lv_at hl 0 rfl) ?_
  refine lv_iconst (v := 1) hx hb dL_law_1175 (by decide) ?_
  refine lv_iadd hx hb dL_law_1176 ?_
  rw [show nI (4 * k) + 1 = nI (4 * k + 1) from nI_add _ _]
  refine va_sld hx hb hX hbl hbA hS (vp_in_nI (show 4 * k + 1 < L by omega) (by omega)) dL_law_1177 ?_
  rw [← hv_v]
  refine lv_aload_n hx hb dL_law_1178 rfl (lv_at hl 1 rfl) ?_
  refine lv_iload hx hb dL_law_1179 (lv_at hl 0 rfl) ?_
  refine lv_iconst (v := 2) hx hb dL_law_1181 (by decide) ?_
  refine lv_iadd hx hb dL_law_1182 ?_
  rw [show nI (4 * k) + 2 = nI (4 * k + 2) from nI_add _ _]
  refine va_sld hx hb hX hbl hbA hS (vp_in_nI (show 4 * k + 2 < L by omega) (by omega)) dL_law_1183 ?_
  rw [← hv_w]
  refine lv_aload_n hx hb dL_law_1184 rfl (lv_at hl 4 rfl) ?_
  have hM9 := c_L_best l D G (lwA s) ad N C M o H hW hl0 hR.ic mi v w
  refine g_ZSi (As := [.ref (ad 0 0), .int v, .int w, .ref (ad 0 2)]) (rest := []) (post := fun (r : Int32) (_ : Unit) => okW oI (f_X4_best C N v w) r) (B := fun (_ : Unit) H => gW D (lwA s) ad (oW (f_X4_best C N v w) (fun a => Wd G ad N C M (oL o a.toInt64)) (Wd G ad N C M o)) H) (mc := 1) (ms := 6) C0 hM9 (vx_cwSW 4 hts gL_law_L_best rfl rfl rfl (by decide +kernel) ⟨Nat.le_of_ble_eq_true rfl, Nat.le_of_ble_eq_true rfl⟩) hK hE hL hNe hNc rfl rfl hl rfl (Nat.le_of_ble_eq_true rfl) dL_law_1185 ⟨(by show 22 + k * 1173 + 1 ≤ 601024; omega), (by show 397 + k * 14243 + 6 ≤ 7293034; omega)⟩ hS (fun k9 u H1 locs1 hok hW hz hS => ?_)
  have hq := q_best hR (by omega) v w
  obtain ⟨N1, C1, o1, hW, hR1, hth, hov⟩ := st_W (val := fun a => a.toInt64) hd_I hok hq.1 hW ((hq.2 C hR).mono (Nat.le_succ k)) (fun E hE9 => ⟨rfl, rfl⟩)
  refine lv_istore (lv' := [(5, .int k9), (4, .int (nI (4 * k))), (0, .ref b), (1, .ref (ad 0 0)), (2, .ref (ad 0 1)), (3, .ref (ad 0 2))]) hx hb dL_law_1188 hl (by decide) rfl (fun ls hl => ?_)
  refine lv_aload_n hx hb dL_law_1190 rfl (lv_at hl 4 rfl) ?_
  refine lv_aload_n hx hb dL_law_1191 rfl (lv_at hl 2 rfl) ?_
  refine lv_iload hx hb dL_law_1192 (lv_at hl 1 rfl) ?_
  refine lv_iconst (v := 1) hx hb dL_law_1194 (by decide) ?_
  refine lv_iadd hx hb dL_law_1195 ?_
  rw [show nI (4 * k) + 1 = nI (4 * k + 1) from nI_add _ _]
  refine va_sld hx hb hX hbl hbA hS (vp_in_nI (show 4 * k + 1 < L by omega) (by omega)) dL_law_1196 ?_
  rw [← hv_v]
  refine lv_aload_n hx hb dL_law_1197 rfl (lv_at hl 2 rfl) ?_
  refine lv_iload hx hb dL_law_1198 (lv_at hl 1 rfl) ?_
  refine lv_iconst (v := 2) hx hb dL_law_1200 (by decide) ?_
  refine lv_iadd hx hb dL_law_1201 ?_
  rw [show nI (4 * k) + 2 = nI (4 * k + 2) from nI_add _ _]
  refine va_sld hx hb hX hbl hbA hS (vp_in_nI (show 4 * k + 2 < L by omega) (by omega)) dL_law_1202 ?_
  rw [← hv_w]
  have hI := hR.im (by omega)
  refine g_wVi (As := [.int v, .int w]) (rest := []) (B := fun (_ : Unit) H => gW D (lwA s) ad (Wd G ad N1 C1 (s_X5_best N M v w) o1) H) (mc := 0) (ms := 0) C0 (c_X5_best l D G (lwA s) ad N1 C1 M o1 H1 hW N hI v w) (cwV 2 hts gL_law_X5_best rfl rfl rfl (by decide +kernel) ⟨Nat.le_of_ble_eq_true rfl, Nat.le_of_ble_eq_true rfl⟩) hK (va_recv hK (hW.p rfl) (ci := 6) (q0 := 0) rfl rfl) rfl hl rfl (Nat.le_of_ble_eq_true rfl) dL_law_1203 ⟨(by show 22 + k * 1173 + 1 + 0 ≤ 601024; omega), (by show 397 + k * 14243 + 6 + 0 ≤ 7293034; omega)⟩ hS (fun r8 u8 H2 locs2 hr8 hW hz hS => ?_)
  replace hr8 : r8 = (f_X5_best N M v w) := hr8
  refine lv_istore (lv' := [(6, .int r8), (5, .int k9), (4, .int (nI (4 * k))), (0, .ref b), (1, .ref (ad 0 0)), (2, .ref (ad 0 1)), (3, .ref (ad 0 2))]) hx hb dL_law_1206 hl (by decide) rfl (fun ls hl => ?_)
  refine lv_aload_n hx hb dL_law_1208 rfl (lv_at hl 5 rfl) ?_
  refine g_Vi (As := []) (rest := []) C0 (c_X5_thrown l D G (lwA s) ad N1 C1 (s_X5_best N M v w) o1 H2 hW) (cwV 0 hts gL_law_X5_thrown rfl rfl rfl (by decide +kernel) ⟨Nat.le_of_ble_eq_true rfl, Nat.le_of_ble_eq_true rfl⟩) hK (va_recv hK (hW.p rfl) (ci := 6) (q0 := 0) rfl rfl) rfl hl rfl (Nat.le_of_ble_eq_true rfl) dL_law_1209 ⟨(by show 22 + k * 1173 + 1 + 0 ≤ 601024; omega), (by show 397 + k * 14243 + 6 + 0 ≤ 7293034; omega)⟩ hS (fun th locs3 hth3 hS => ?_)
  replace hth3 : th = k9 := hth3.trans hth
  subst th
  refine lv_iload hx hb dL_law_1212 (lv_at hl 1 rfl) ?_
  refine lv_icmp_eq (tgt := 1219) hx hb dL_law_1214 (by decide) (fun _ => ?_) (fun c9 => absurd rfl c9)
  refine lv_iload hx hb dL_law_1219 (lv_at hl 1 rfl) ?_
  refine lv_if_ne (tgt := 1236) hx hb dL_law_1221 (by decide) (fun c9 => ?_) (fun c9 => ?_)
  · refine lv_goto (tgt := 1406) hx hb dL_law_1236 (by decide) ?_
    refine W.widen (k := 22 + (k + 1) * 1173) (n := 397 + (k + 1) * 14243) (by omega) (by omega) ?_
    have hl : lv_has ls 9 [(4, .int (nI (4 * k))), (0, .ref b), (1, .ref (ad 0 0)), (2, .ref (ad 0 1)), (3, .ref (ad 0 2))] := lv_sub hl [2, 3, 4, 5, 6] rfl
    exact nx ad N1 C1 (s_X5_best N M v w) o1 _ _ _ hW hR1 (fun _ => rfl) hS hl
  · refine lv_aload_n hx hb dL_law_1224 rfl (lv_at hl 6 rfl) ?_
    refine lv_iconst (v := 0) hx hb dL_law_1225 (by decide) ?_
    refine g_lald (ad := ad) hx hb hK hW 1 (n := 1) (f := o1) rfl rfl (vp_in_nI (by decide : 0 < 1) (by decide)) dL_law_1226 ?_
    have hv9 : o1 ((nI 0).toNatClampNeg) = (r8).toInt64 := by rw [hr8]; exact hov c9
    rw [show o1 ((0 : Int32).toNatClampNeg) = (r8).toInt64 from hv9]
    refine lv_iload hx hb dL_law_1227 (lv_at hl 0 rfl) ?_
    refine lv_i2l (v := r8.toInt64) hx hb dL_law_1229 rfl ?_
    refine W.lcmp hx hb dL_law_1230 ?_
    refine lv_if_eq (tgt := 1236) hx hb dL_law_1231 (by decide) (fun _ => ?_) (fun c8 => absurd (lg_cmp_self _) c8)
    refine lv_goto (tgt := 1406) hx hb dL_law_1236 (by decide) ?_
    refine W.widen (k := 22 + (k + 1) * 1173) (n := 397 + (k + 1) * 14243) (by omega) (by omega) ?_
    have hl : lv_has ls 9 [(4, .int (nI (4 * k))), (0, .ref b), (1, .ref (ad 0 0)), (2, .ref (ad 0 1)), (3, .ref (ad 0 2))] := lv_sub hl [2, 3, 4, 5, 6] rfl
    exact nx ad N1 C1 (s_X5_best N M v w) o1 _ _ _ hW hR1 (fun _ => rfl) hS hl
set_option maxHeartbeats 4000000 in
set_option maxRecDepth 100000 in
theorem law_most {p : Program} {l : Launch} {e : Env} {s : State} {m : MethodId} {below : List Frame} {meth : Method} {c : Code} {b L : Nat} {xs : Nat → Int32} {D : va_G} {G : gG} {mi : Nat} (hLC : LC p l s m meth c b L xs D G mi) {k : Nat} (hk : 4 * k + 4 ≤ L) {ad : gAd} {N : gN} {C M : gT} {o : Nat → Int64} {H : Heap} {locs : List Loc} {ls : Array Slot} (hW : gW D (lwA s) ad (Wd G ad N C M o) H) (hR : Rel k N C M) (hS : va_S (lwA s) s.heap H locs) (hl : lv_has ls 9 [(4, .int (nI (4 * k))), (0, .ref b), (1, .ref (ad 0 0)), (2, .ref (ad 0 1)), (3, .ref (ad 0 2))]) (nx : ∀ (ad2 : gAd) (N2 : gN) (C2 M2 : gT) (o2 : Nat → Int64) (H2 : Heap) (locs2 : List Loc) (ls2 : Array Slot), gW D (lwA s) ad2 (Wd G ad2 N2 C2 M2 o2) H2 → Rel (k + 1) N2 C2 M2 → (∀ i, ad2 0 i = ad 0 i) → va_S (lwA s) s.heap H2 locs2 → lv_has ls2 9 [(4, .int (nI (4 * k))), (0, .ref b), (1, .ref (ad 0 0)), (2, .ref (ad 0 1)), (3, .ref (ad 0 2))] → W p l e room_1 s m #[Value.ref b] below meth c H2 locs2 (22 + (k + 1) * 1173) (397 + (k + 1) * 14243) (lw_Z below #[Value.ref b] s) (F0 m 1406 ls2 [])) : W p l e room_1 s m #[Value.ref b] below meth c H locs (22 + k * 1173) (397 + k * 14243) (lw_Z below #[Value.ref b] s) (F0 m 1239 ls []) := by
  obtain ⟨hAt, hl0, hK, hE, hL, hNe, hNc, hL2⟩ := hLC
  obtain ⟨hx, hb, hrt, hml, hown, hts0, hX, hbl, hlocks, hgv⟩ := hAt
  have hown : s.vm.findClass RL = some m.cls := hown
  have hts : ∀ w ∈ wsL_law, w.before #[Value.ref b] s = true := fun w h => hts0 w (wsL_law_in w h)
  have C0 : CallFix p m c cL_law 9 s #[Value.ref b] wsL_law RL := ⟨hx, hb, hml, hown, hts⟩
  have hbA : ¬ lwA s b := Nat.not_le.mpr hbl
  have hA : ∀ q, H.size ≤ q → lwA s q := fun q h => Nat.le_trans hS.1 h
  have hk5 : k ≤ 511 := by omega
  obtain ⟨v, hv_v⟩ : ∃ y : Int32, y = (xs (nI (4 * k + 1)).toNatClampNeg) := ⟨_, rfl⟩
  refine lv_aload_n hx hb dL_law_1239 rfl (lv_at hl 2 rfl) ?_
  refine lv_aload_n hx hb dL_law_1240 rfl (lv_at hl 1 rfl) ?_
  refine lv_iload hx hb dL_law_1241 (lv_at hl 0 rfl) ?_
  refine lv_iconst (v := 1) hx hb dL_law_1243 (by decide) ?_
  refine lv_iadd hx hb dL_law_1244 ?_
  rw [show nI (4 * k) + 1 = nI (4 * k + 1) from nI_add _ _]
  refine va_sld hx hb hX hbl hbA hS (vp_in_nI (show 4 * k + 1 < L by omega) (by omega)) dL_law_1245 ?_
  rw [← hv_v]
  refine lv_aload_n hx hb dL_law_1246 rfl (lv_at hl 4 rfl) ?_
  have hM9 := c_L_most l D G (lwA s) ad N C M o H hW hl0 hR.ic mi v
  refine g_ZSi (As := [.ref (ad 0 0), .int v, .ref (ad 0 2)]) (rest := []) (post := fun (r : Int32) (_ : Unit) => okW oI (f_X4_most C N v) r) (B := fun (_ : Unit) H => gW D (lwA s) ad (oW (f_X4_most C N v) (fun a => Wd G ad N C M (oL o a.toInt64)) (Wd G ad N C M o)) H) (mc := 1) (ms := 6) C0 hM9 (vx_cwSW 3 hts gL_law_L_most rfl rfl rfl (by decide +kernel) ⟨Nat.le_of_ble_eq_true rfl, Nat.le_of_ble_eq_true rfl⟩) hK hE hL hNe hNc rfl rfl hl rfl (Nat.le_of_ble_eq_true rfl) dL_law_1247 ⟨(by show 22 + k * 1173 + 1 ≤ 601024; omega), (by show 397 + k * 14243 + 6 ≤ 7293034; omega)⟩ hS (fun k9 u H1 locs1 hok hW hz hS => ?_)
  have hq := q_most hR v
  obtain ⟨N1, C1, o1, hW, hR1, hth, hov⟩ := st_W (val := fun a => a.toInt64) hd_I hok hq.1 hW ((hq.2 C hR).mono (Nat.le_succ k)) (fun E hE9 => ⟨rfl, rfl⟩)
  refine lv_istore (lv' := [(5, .int k9), (4, .int (nI (4 * k))), (0, .ref b), (1, .ref (ad 0 0)), (2, .ref (ad 0 1)), (3, .ref (ad 0 2))]) hx hb dL_law_1250 hl (by decide) rfl (fun ls hl => ?_)
  refine lv_aload_n hx hb dL_law_1252 rfl (lv_at hl 4 rfl) ?_
  refine lv_aload_n hx hb dL_law_1253 rfl (lv_at hl 2 rfl) ?_
  refine lv_iload hx hb dL_law_1254 (lv_at hl 1 rfl) ?_
  refine lv_iconst (v := 1) hx hb dL_law_1256 (by decide) ?_
  refine lv_iadd hx hb dL_law_1257 ?_
  rw [show nI (4 * k) + 1 = nI (4 * k + 1) from nI_add _ _]
  refine va_sld hx hb hX hbl hbA hS (vp_in_nI (show 4 * k + 1 < L by omega) (by omega)) dL_law_1258 ?_
  rw [← hv_v]
  have hI := hR.im (by omega)
  refine g_wVi (As := [.int v]) (rest := []) (B := fun (_ : Unit) H => gW D (lwA s) ad (Wd G ad N1 C1 (s_X5_most N M v) o1) H) (mc := 0) (ms := 0) C0 (c_X5_most l D G (lwA s) ad N1 C1 M o1 H1 hW N hI v) (cwV 1 hts gL_law_X5_most rfl rfl rfl (by decide +kernel) ⟨Nat.le_of_ble_eq_true rfl, Nat.le_of_ble_eq_true rfl⟩) hK (va_recv hK (hW.p rfl) (ci := 6) (q0 := 0) rfl rfl) rfl hl rfl (Nat.le_of_ble_eq_true rfl) dL_law_1259 ⟨(by show 22 + k * 1173 + 1 + 0 ≤ 601024; omega), (by show 397 + k * 14243 + 6 + 0 ≤ 7293034; omega)⟩ hS (fun r8 u8 H2 locs2 hr8 hW hz hS => ?_)
  replace hr8 : r8 = (f_X5_most N M v) := hr8
  refine lv_istore (lv' := [(6, .int r8), (5, .int k9), (4, .int (nI (4 * k))), (0, .ref b), (1, .ref (ad 0 0)), (2, .ref (ad 0 1)), (3, .ref (ad 0 2))]) hx hb dL_law_1262 hl (by decide) rfl (fun ls hl => ?_)
  refine lv_aload_n hx hb dL_law_1264 rfl (lv_at hl 5 rfl) ?_
  refine g_Vi (As := []) (rest := []) C0 (c_X5_thrown l D G (lwA s) ad N1 C1 (s_X5_most N M v) o1 H2 hW) (cwV 0 hts gL_law_X5_thrown rfl rfl rfl (by decide +kernel) ⟨Nat.le_of_ble_eq_true rfl, Nat.le_of_ble_eq_true rfl⟩) hK (va_recv hK (hW.p rfl) (ci := 6) (q0 := 0) rfl rfl) rfl hl rfl (Nat.le_of_ble_eq_true rfl) dL_law_1265 ⟨(by show 22 + k * 1173 + 1 + 0 ≤ 601024; omega), (by show 397 + k * 14243 + 6 + 0 ≤ 7293034; omega)⟩ hS (fun th locs3 hth3 hS => ?_)
  replace hth3 : th = k9 := hth3.trans hth
  subst th
  refine lv_iload hx hb dL_law_1268 (lv_at hl 1 rfl) ?_
  refine lv_icmp_eq (tgt := 1275) hx hb dL_law_1270 (by decide) (fun _ => ?_) (fun c9 => absurd rfl c9)
  refine lv_iload hx hb dL_law_1275 (lv_at hl 1 rfl) ?_
  refine lv_if_ne (tgt := 1292) hx hb dL_law_1277 (by decide) (fun c9 => ?_) (fun c9 => ?_)
  · refine lv_goto (tgt := 1406) hx hb dL_law_1292 (by decide) ?_
    refine W.widen (k := 22 + (k + 1) * 1173) (n := 397 + (k + 1) * 14243) (by omega) (by omega) ?_
    have hl : lv_has ls 9 [(4, .int (nI (4 * k))), (0, .ref b), (1, .ref (ad 0 0)), (2, .ref (ad 0 1)), (3, .ref (ad 0 2))] := lv_sub hl [2, 3, 4, 5, 6] rfl
    exact nx ad N1 C1 (s_X5_most N M v) o1 _ _ _ hW hR1 (fun _ => rfl) hS hl
  · refine lv_aload_n hx hb dL_law_1280 rfl (lv_at hl 6 rfl) ?_
    refine lv_iconst (v := 0) hx hb dL_law_1281 (by decide) ?_
    refine g_lald (ad := ad) hx hb hK hW 1 (n := 1) (f := o1) rfl rfl (vp_in_nI (by decide : 0 < 1) (by decide)) dL_law_1282 ?_
    have hv9 : o1 ((nI 0).toNatClampNeg) = (r8).toInt64 := by rw [hr8]; exact hov c9
    rw [show o1 ((0 : Int32).toNatClampNeg) = (r8).toInt64 from hv9]
    refine lv_iload hx hb dL_law_1283 (lv_at hl 0 rfl) ?_
    refine lv_i2l (v := r8.toInt64) hx hb dL_law_1285 rfl ?_
    refine W.lcmp hx hb dL_law_1286 ?_
    refine lv_if_eq (tgt := 1292) hx hb dL_law_1287 (by decide) (fun _ => ?_) (fun c8 => absurd (lg_cmp_self _) c8)
    refine lv_goto (tgt := 1406) hx hb dL_law_1292 (by decide) ?_
    refine W.widen (k := 22 + (k + 1) * 1173) (n := 397 + (k + 1) * 14243) (by omega) (by omega) ?_
    have hl : lv_has ls 9 [(4, .int (nI (4 * k))), (0, .ref b), (1, .ref (ad 0 0)), (2, .ref (ad 0 1)), (3, .ref (ad 0 2))] := lv_sub hl [2, 3, 4, 5, 6] rfl
    exact nx ad N1 C1 (s_X5_most N M v) o1 _ _ _ hW hR1 (fun _ => rfl) hS hl
set_option maxHeartbeats 4000000 in
set_option maxRecDepth 100000 in
theorem law_sleeps {p : Program} {l : Launch} {e : Env} {s : State} {m : MethodId} {below : List Frame} {meth : Method} {c : Code} {b L : Nat} {xs : Nat → Int32} {D : va_G} {G : gG} {mi : Nat} (hLC : LC p l s m meth c b L xs D G mi) {k : Nat} (hk : 4 * k + 4 ≤ L) {ad : gAd} {N : gN} {C M : gT} {o : Nat → Int64} {H : Heap} {locs : List Loc} {ls : Array Slot} (hW : gW D (lwA s) ad (Wd G ad N C M o) H) (hR : Rel k N C M) (hS : va_S (lwA s) s.heap H locs) (hl : lv_has ls 9 [(4, .int (nI (4 * k))), (0, .ref b), (1, .ref (ad 0 0)), (2, .ref (ad 0 1)), (3, .ref (ad 0 2))]) (nx : ∀ (ad2 : gAd) (N2 : gN) (C2 M2 : gT) (o2 : Nat → Int64) (H2 : Heap) (locs2 : List Loc) (ls2 : Array Slot), gW D (lwA s) ad2 (Wd G ad2 N2 C2 M2 o2) H2 → Rel (k + 1) N2 C2 M2 → (∀ i, ad2 0 i = ad 0 i) → va_S (lwA s) s.heap H2 locs2 → lv_has ls2 9 [(4, .int (nI (4 * k))), (0, .ref b), (1, .ref (ad 0 0)), (2, .ref (ad 0 1)), (3, .ref (ad 0 2))] → W p l e room_1 s m #[Value.ref b] below meth c H2 locs2 (22 + (k + 1) * 1173) (397 + (k + 1) * 14243) (lw_Z below #[Value.ref b] s) (F0 m 1406 ls2 [])) : W p l e room_1 s m #[Value.ref b] below meth c H locs (22 + k * 1173) (397 + k * 14243) (lw_Z below #[Value.ref b] s) (F0 m 1295 ls []) := by
  obtain ⟨hAt, hl0, hK, hE, hL, hNe, hNc, hL2⟩ := hLC
  obtain ⟨hx, hb, hrt, hml, hown, hts0, hX, hbl, hlocks, hgv⟩ := hAt
  have hown : s.vm.findClass RL = some m.cls := hown
  have hts : ∀ w ∈ wsL_law, w.before #[Value.ref b] s = true := fun w h => hts0 w (wsL_law_in w h)
  have C0 : CallFix p m c cL_law 9 s #[Value.ref b] wsL_law RL := ⟨hx, hb, hml, hown, hts⟩
  have hbA : ¬ lwA s b := Nat.not_le.mpr hbl
  have hA : ∀ q, H.size ≤ q → lwA s q := fun q h => Nat.le_trans hS.1 h
  have hk5 : k ≤ 511 := by omega
  obtain ⟨v, hv_v⟩ : ∃ y : Int32, y = (xs (nI (4 * k + 1)).toNatClampNeg) := ⟨_, rfl⟩
  refine lv_aload_n hx hb dL_law_1295 rfl (lv_at hl 2 rfl) ?_
  refine lv_aload_n hx hb dL_law_1296 rfl (lv_at hl 1 rfl) ?_
  refine lv_iload hx hb dL_law_1297 (lv_at hl 0 rfl) ?_
  refine lv_iconst (v := 1) hx hb dL_law_1299 (by decide) ?_
  refine lv_iadd hx hb dL_law_1300 ?_
  rw [show nI (4 * k) + 1 = nI (4 * k + 1) from nI_add _ _]
  refine va_sld hx hb hX hbl hbA hS (vp_in_nI (show 4 * k + 1 < L by omega) (by omega)) dL_law_1301 ?_
  rw [← hv_v]
  refine lv_aload_n hx hb dL_law_1302 rfl (lv_at hl 4 rfl) ?_
  have hM9 := c_L_sleeps l D G (lwA s) ad N C M o H hW hl0 hR.ic mi v
  refine g_ZSi (As := [.ref (ad 0 0), .int v, .ref (ad 0 2)]) (rest := []) (post := fun (r : Int32) (_ : Unit) => okW oI (f_X4_sleeps C N v) r) (B := fun (_ : Unit) H => gW D (lwA s) ad (oW (f_X4_sleeps C N v) (fun a => Wd G ad N C M (oL o a.toInt64)) (Wd G ad N C M o)) H) (mc := 1) (ms := 6) C0 hM9 (vx_cwSW 3 hts gL_law_L_sleeps rfl rfl rfl (by decide +kernel) ⟨Nat.le_of_ble_eq_true rfl, Nat.le_of_ble_eq_true rfl⟩) hK hE hL hNe hNc rfl rfl hl rfl (Nat.le_of_ble_eq_true rfl) dL_law_1303 ⟨(by show 22 + k * 1173 + 1 ≤ 601024; omega), (by show 397 + k * 14243 + 6 ≤ 7293034; omega)⟩ hS (fun k9 u H1 locs1 hok hW hz hS => ?_)
  have hq := q_sleeps hR v
  obtain ⟨N1, C1, o1, hW, hR1, hth, hov⟩ := st_W (val := fun a => a.toInt64) hd_I hok hq.1 hW ((hq.2 C hR).mono (Nat.le_succ k)) (fun E hE9 => ⟨rfl, rfl⟩)
  refine lv_istore (lv' := [(5, .int k9), (4, .int (nI (4 * k))), (0, .ref b), (1, .ref (ad 0 0)), (2, .ref (ad 0 1)), (3, .ref (ad 0 2))]) hx hb dL_law_1306 hl (by decide) rfl (fun ls hl => ?_)
  refine lv_aload_n hx hb dL_law_1308 rfl (lv_at hl 4 rfl) ?_
  refine lv_aload_n hx hb dL_law_1309 rfl (lv_at hl 2 rfl) ?_
  refine lv_iload hx hb dL_law_1310 (lv_at hl 1 rfl) ?_
  refine lv_iconst (v := 1) hx hb dL_law_1312 (by decide) ?_
  refine lv_iadd hx hb dL_law_1313 ?_
  rw [show nI (4 * k) + 1 = nI (4 * k + 1) from nI_add _ _]
  refine va_sld hx hb hX hbl hbA hS (vp_in_nI (show 4 * k + 1 < L by omega) (by omega)) dL_law_1314 ?_
  rw [← hv_v]
  have hI := hR.im (by omega)
  refine g_wVi (As := [.int v]) (rest := []) (B := fun (_ : Unit) H => gW D (lwA s) ad (Wd G ad N1 C1 (s_X5_sleeps N M v) o1) H) (mc := 0) (ms := 0) C0 (c_X5_sleeps l D G (lwA s) ad N1 C1 M o1 H1 hW N hI v) (cwV 1 hts gL_law_X5_sleeps rfl rfl rfl (by decide +kernel) ⟨Nat.le_of_ble_eq_true rfl, Nat.le_of_ble_eq_true rfl⟩) hK (va_recv hK (hW.p rfl) (ci := 6) (q0 := 0) rfl rfl) rfl hl rfl (Nat.le_of_ble_eq_true rfl) dL_law_1315 ⟨(by show 22 + k * 1173 + 1 + 0 ≤ 601024; omega), (by show 397 + k * 14243 + 6 + 0 ≤ 7293034; omega)⟩ hS (fun r8 u8 H2 locs2 hr8 hW hz hS => ?_)
  replace hr8 : r8 = (f_X5_sleeps N M v) := hr8
  refine lv_istore (lv' := [(6, .int r8), (5, .int k9), (4, .int (nI (4 * k))), (0, .ref b), (1, .ref (ad 0 0)), (2, .ref (ad 0 1)), (3, .ref (ad 0 2))]) hx hb dL_law_1318 hl (by decide) rfl (fun ls hl => ?_)
  refine lv_aload_n hx hb dL_law_1320 rfl (lv_at hl 5 rfl) ?_
  refine g_Vi (As := []) (rest := []) C0 (c_X5_thrown l D G (lwA s) ad N1 C1 (s_X5_sleeps N M v) o1 H2 hW) (cwV 0 hts gL_law_X5_thrown rfl rfl rfl (by decide +kernel) ⟨Nat.le_of_ble_eq_true rfl, Nat.le_of_ble_eq_true rfl⟩) hK (va_recv hK (hW.p rfl) (ci := 6) (q0 := 0) rfl rfl) rfl hl rfl (Nat.le_of_ble_eq_true rfl) dL_law_1321 ⟨(by show 22 + k * 1173 + 1 + 0 ≤ 601024; omega), (by show 397 + k * 14243 + 6 + 0 ≤ 7293034; omega)⟩ hS (fun th locs3 hth3 hS => ?_)
  replace hth3 : th = k9 := hth3.trans hth
  subst th
  refine lv_iload hx hb dL_law_1324 (lv_at hl 1 rfl) ?_
  refine lv_icmp_eq (tgt := 1331) hx hb dL_law_1326 (by decide) (fun _ => ?_) (fun c9 => absurd rfl c9)
  refine lv_iload hx hb dL_law_1331 (lv_at hl 1 rfl) ?_
  refine lv_if_ne (tgt := 1348) hx hb dL_law_1333 (by decide) (fun c9 => ?_) (fun c9 => ?_)
  · refine lv_goto (tgt := 1406) hx hb dL_law_1348 (by decide) ?_
    refine W.widen (k := 22 + (k + 1) * 1173) (n := 397 + (k + 1) * 14243) (by omega) (by omega) ?_
    have hl : lv_has ls 9 [(4, .int (nI (4 * k))), (0, .ref b), (1, .ref (ad 0 0)), (2, .ref (ad 0 1)), (3, .ref (ad 0 2))] := lv_sub hl [2, 3, 4, 5, 6] rfl
    exact nx ad N1 C1 (s_X5_sleeps N M v) o1 _ _ _ hW hR1 (fun _ => rfl) hS hl
  · refine lv_aload_n hx hb dL_law_1336 rfl (lv_at hl 6 rfl) ?_
    refine lv_iconst (v := 0) hx hb dL_law_1337 (by decide) ?_
    refine g_lald (ad := ad) hx hb hK hW 1 (n := 1) (f := o1) rfl rfl (vp_in_nI (by decide : 0 < 1) (by decide)) dL_law_1338 ?_
    have hv9 : o1 ((nI 0).toNatClampNeg) = (r8).toInt64 := by rw [hr8]; exact hov c9
    rw [show o1 ((0 : Int32).toNatClampNeg) = (r8).toInt64 from hv9]
    refine lv_iload hx hb dL_law_1339 (lv_at hl 0 rfl) ?_
    refine lv_i2l (v := r8.toInt64) hx hb dL_law_1341 rfl ?_
    refine W.lcmp hx hb dL_law_1342 ?_
    refine lv_if_eq (tgt := 1348) hx hb dL_law_1343 (by decide) (fun _ => ?_) (fun c8 => absurd (lg_cmp_self _) c8)
    refine lv_goto (tgt := 1406) hx hb dL_law_1348 (by decide) ?_
    refine W.widen (k := 22 + (k + 1) * 1173) (n := 397 + (k + 1) * 14243) (by omega) (by omega) ?_
    have hl : lv_has ls 9 [(4, .int (nI (4 * k))), (0, .ref b), (1, .ref (ad 0 0)), (2, .ref (ad 0 1)), (3, .ref (ad 0 2))] := lv_sub hl [2, 3, 4, 5, 6] rfl
    exact nx ad N1 C1 (s_X5_sleeps N M v) o1 _ _ _ hW hR1 (fun _ => rfl) hS hl
set_option maxHeartbeats 4000000 in
set_option maxRecDepth 100000 in
theorem law_mean {p : Program} {l : Launch} {e : Env} {s : State} {m : MethodId} {below : List Frame} {meth : Method} {c : Code} {b L : Nat} {xs : Nat → Int32} {D : va_G} {G : gG} {mi : Nat} (hLC : LC p l s m meth c b L xs D G mi) {k : Nat} (hk : 4 * k + 4 ≤ L) {ad : gAd} {N : gN} {C M : gT} {o : Nat → Int64} {H : Heap} {locs : List Loc} {ls : Array Slot} (hW : gW D (lwA s) ad (Wd G ad N C M o) H) (hR : Rel k N C M) (hS : va_S (lwA s) s.heap H locs) (hl : lv_has ls 9 [(4, .int (nI (4 * k))), (0, .ref b), (1, .ref (ad 0 0)), (2, .ref (ad 0 1)), (3, .ref (ad 0 2))]) (nx : ∀ (ad2 : gAd) (N2 : gN) (C2 M2 : gT) (o2 : Nat → Int64) (H2 : Heap) (locs2 : List Loc) (ls2 : Array Slot), gW D (lwA s) ad2 (Wd G ad2 N2 C2 M2 o2) H2 → Rel (k + 1) N2 C2 M2 → (∀ i, ad2 0 i = ad 0 i) → va_S (lwA s) s.heap H2 locs2 → lv_has ls2 9 [(4, .int (nI (4 * k))), (0, .ref b), (1, .ref (ad 0 0)), (2, .ref (ad 0 1)), (3, .ref (ad 0 2))] → W p l e room_1 s m #[Value.ref b] below meth c H2 locs2 (22 + (k + 1) * 1173) (397 + (k + 1) * 14243) (lw_Z below #[Value.ref b] s) (F0 m 1406 ls2 [])) : W p l e room_1 s m #[Value.ref b] below meth c H locs (22 + k * 1173) (397 + k * 14243) (lw_Z below #[Value.ref b] s) (F0 m 1351 ls []) := by
  obtain ⟨hAt, hl0, hK, hE, hL, hNe, hNc, hL2⟩ := hLC
  obtain ⟨hx, hb, hrt, hml, hown, hts0, hX, hbl, hlocks, hgv⟩ := hAt
  have hown : s.vm.findClass RL = some m.cls := hown
  have hts : ∀ w ∈ wsL_law, w.before #[Value.ref b] s = true := fun w h => hts0 w (wsL_law_in w h)
  have C0 : CallFix p m c cL_law 9 s #[Value.ref b] wsL_law RL := ⟨hx, hb, hml, hown, hts⟩
  have hbA : ¬ lwA s b := Nat.not_le.mpr hbl
  have hA : ∀ q, H.size ≤ q → lwA s q := fun q h => Nat.le_trans hS.1 h
  have hk5 : k ≤ 511 := by omega
  have hq := q_mean hR
  have hI := hR.im (by omega)
  refine lv_aload_n hx hb dL_law_1351 rfl (lv_at hl 2 rfl) ?_
  refine g_wVd (As := []) (rest := []) (B := fun (_ : Unit) H => gW D (lwA s) ad (Wd G ad N (s_X4_mean C) M o) H) (mc := 0) (ms := 0) C0 (c_X4_mean l D G (lwA s) ad N C M o H hW) (cwV 0 hts gL_law_X4_mean rfl rfl rfl (by decide +kernel) ⟨Nat.le_of_ble_eq_true rfl, Nat.le_of_ble_eq_true rfl⟩) hK (va_recv hK (hW.p rfl) (ci := 5) (q0 := 0) rfl rfl) rfl hl rfl (Nat.le_of_ble_eq_true rfl) dL_law_1352 ⟨(by show 22 + k * 1173 + 0 ≤ 601024; omega), (by show 397 + k * 14243 + 0 ≤ 7293034; omega)⟩ hS (fun r9 u9 H1 locs1 hr9 hW hz hS => ?_)
  have hs1 : s_X4_mean C = C := by unfold s_X4_mean; rw [ite_self]
  rw [hs1] at hW
  refine lv_dstore (lv' := [(5, .double r9), (4, .int (nI (4 * k))), (0, .ref b), (1, .ref (ad 0 0)), (2, .ref (ad 0 1)), (3, .ref (ad 0 2))]) hx hb dL_law_1355 hl (by decide) rfl (fun ls hl => ?_)
  refine lv_aload_n hx hb dL_law_1357 rfl (lv_at hl 4 rfl) ?_
  refine g_wVd (As := []) (rest := []) (B := fun (_ : Unit) H => gW D (lwA s) ad (Wd G ad N C (s_X5_mean N M) o) H) (mc := 0) (ms := 0) C0 (c_X5_mean l D G (lwA s) ad N C M o H1 hW N hI) (cwV 0 hts gL_law_X5_mean rfl rfl rfl (by decide +kernel) ⟨Nat.le_of_ble_eq_true rfl, Nat.le_of_ble_eq_true rfl⟩) hK (va_recv hK (hW.p rfl) (ci := 6) (q0 := 0) rfl rfl) rfl hl rfl (Nat.le_of_ble_eq_true rfl) dL_law_1358 ⟨(by show 22 + k * 1173 + 0 + 0 ≤ 601024; omega), (by show 397 + k * 14243 + 0 + 0 ≤ 7293034; omega)⟩ hS (fun r8 u8 H2 locs2 hr8 hW hz hS => ?_)
  have e9 : r8 = r9 := by rw [show r8 = f_X5_mean N M from hr8, show r9 = f_X4_mean C from hr9]; exact hq.1.symm
  subst e9
  refine lv_dstore (lv' := [(7, .double r8), (5, .double r8), (4, .int (nI (4 * k))), (0, .ref b), (1, .ref (ad 0 0)), (2, .ref (ad 0 1)), (3, .ref (ad 0 2))]) hx hb dL_law_1361 hl (by decide) rfl (fun ls hl => ?_)
  refine lv_dload hx hb dL_law_1363 (lv_at hl 1 rfl) ?_
  refine lv_dload hx hb dL_law_1365 (lv_at hl 0 rfl) ?_
  refine lv_dcmp hx hb dL_law_1367 ?_
  refine lv_if_eq (tgt := 1389) hx hb dL_law_1368 (by decide) (fun c9 => ?_) (fun c9 => ?_)
  · refine lv_goto (tgt := 1406) hx hb dL_law_1389 (by decide) ?_
    refine W.widen (k := 22 + (k + 1) * 1173) (n := 397 + (k + 1) * 14243) (by omega) (by omega) ?_
    have hl : lv_has ls 9 [(4, .int (nI (4 * k))), (0, .ref b), (1, .ref (ad 0 0)), (2, .ref (ad 0 1)), (3, .ref (ad 0 2))] := lv_sub hl [2, 3, 4, 5, 6] rfl
    exact nx ad N C (s_X5_mean N M) o _ _ _ hW ((hq.2 C hR).mono (Nat.le_succ k)) (fun _ => rfl) hS hl
  · refine lv_dload hx hb dL_law_1371 (lv_at hl 1 rfl) ?_
    refine lv_dload hx hb dL_law_1373 (lv_at hl 1 rfl) ?_
    refine lv_dcmp hx hb dL_law_1375 ?_
    refine lv_if_eq (tgt := 1387) hx hb dL_law_1376 (by decide) (fun c8 => absurd c8 c9) (fun _ => ?_)
    refine lv_dload hx hb dL_law_1379 (lv_at hl 0 rfl) ?_
    refine lv_dload hx hb dL_law_1381 (lv_at hl 0 rfl) ?_
    refine lv_dcmp hx hb dL_law_1383 ?_
    refine lv_if_ne (tgt := 1389) hx hb dL_law_1384 (by decide) (fun _ => ?_) (fun c8 => absurd c8 c9)
    refine lv_goto (tgt := 1406) hx hb dL_law_1389 (by decide) ?_
    refine W.widen (k := 22 + (k + 1) * 1173) (n := 397 + (k + 1) * 14243) (by omega) (by omega) ?_
    have hl : lv_has ls 9 [(4, .int (nI (4 * k))), (0, .ref b), (1, .ref (ad 0 0)), (2, .ref (ad 0 1)), (3, .ref (ad 0 2))] := lv_sub hl [2, 3, 4, 5, 6] rfl
    exact nx ad N C (s_X5_mean N M) o _ _ _ hW ((hq.2 C hR).mono (Nat.le_succ k)) (fun _ => rfl) hS hl
set_option maxHeartbeats 4000000 in
set_option maxRecDepth 100000 in
theorem law_digest {p : Program} {l : Launch} {e : Env} {s : State} {m : MethodId} {below : List Frame} {meth : Method} {c : Code} {b L : Nat} {xs : Nat → Int32} {D : va_G} {G : gG} {mi : Nat} (hLC : LC p l s m meth c b L xs D G mi) {k : Nat} (hk : 4 * k + 4 ≤ L) {ad : gAd} {N : gN} {C M : gT} {o : Nat → Int64} {H : Heap} {locs : List Loc} {ls : Array Slot} (hW : gW D (lwA s) ad (Wd G ad N C M o) H) (hR : Rel k N C M) (hS : va_S (lwA s) s.heap H locs) (hl : lv_has ls 9 [(4, .int (nI (4 * k))), (0, .ref b), (1, .ref (ad 0 0)), (2, .ref (ad 0 1)), (3, .ref (ad 0 2))]) (nx : ∀ (ad2 : gAd) (N2 : gN) (C2 M2 : gT) (o2 : Nat → Int64) (H2 : Heap) (locs2 : List Loc) (ls2 : Array Slot), gW D (lwA s) ad2 (Wd G ad2 N2 C2 M2 o2) H2 → Rel (k + 1) N2 C2 M2 → (∀ i, ad2 0 i = ad 0 i) → va_S (lwA s) s.heap H2 locs2 → lv_has ls2 9 [(4, .int (nI (4 * k))), (0, .ref b), (1, .ref (ad 0 0)), (2, .ref (ad 0 1)), (3, .ref (ad 0 2))] → W p l e room_1 s m #[Value.ref b] below meth c H2 locs2 (22 + (k + 1) * 1173) (397 + (k + 1) * 14243) (lw_Z below #[Value.ref b] s) (F0 m 1406 ls2 [])) : W p l e room_1 s m #[Value.ref b] below meth c H locs (22 + k * 1173) (397 + k * 14243) (lw_Z below #[Value.ref b] s) (F0 m 1392 ls []) := by
  obtain ⟨hAt, hl0, hK, hE, hL, hNe, hNc, hL2⟩ := hLC
  obtain ⟨hx, hb, hrt, hml, hown, hts0, hX, hbl, hlocks, hgv⟩ := hAt
  have hown : s.vm.findClass RL = some m.cls := hown
  have hts : ∀ w ∈ wsL_law, w.before #[Value.ref b] s = true := fun w h => hts0 w (wsL_law_in w h)
  have C0 : CallFix p m c cL_law 9 s #[Value.ref b] wsL_law RL := ⟨hx, hb, hml, hown, hts⟩
  have hbA : ¬ lwA s b := Nat.not_le.mpr hbl
  have hA : ∀ q, H.size ≤ q → lwA s q := fun q h => Nat.le_trans hS.1 h
  have hk5 : k ≤ 511 := by omega
  have hq := q_dig hR
  have hI := hR.im (by omega)
  refine lv_aload_n hx hb dL_law_1392 rfl (lv_at hl 2 rfl) ?_
  refine g_Vl (As := []) (rest := []) C0 (c_X4_digest l D G (lwA s) ad N C M o H hW hR.ic) (cwV 0 hts gL_law_X4_digest rfl rfl rfl (by decide +kernel) ⟨Nat.le_of_ble_eq_true rfl, Nat.le_of_ble_eq_true rfl⟩) hK (va_recv hK (hW.p rfl) (ci := 5) (q0 := 0) rfl rfl) rfl hl rfl (Nat.le_of_ble_eq_true rfl) dL_law_1393 ⟨(by show 22 + k * 1173 ≤ 601024; omega), (by show 397 + k * 14243 ≤ 7293034; omega)⟩ hS (fun r9 locs1 hr9 hS => ?_)
  refine lv_aload_n hx hb dL_law_1396 rfl (lv_at hl 3 rfl) ?_
  refine g_wVl (As := []) (rest := [.long r9]) (B := fun (_ : Unit) H => gW D (lwA s) ad (Wd G ad N C (s_X5_digest N M) o) H) (mc := 71) (ms := 421) C0 (c_X5_digest l D G (lwA s) ad N C M o H hW (fun q h => Nat.le_trans hS.1 h) N hI) (cwV 0 hts gL_law_X5_digest rfl rfl rfl (by decide +kernel) ⟨Nat.le_of_ble_eq_true rfl, Nat.le_of_ble_eq_true rfl⟩) hK (va_recv hK (hW.p rfl) (ci := 6) (q0 := 0) rfl rfl) rfl hl rfl (Nat.le_of_ble_eq_true rfl) dL_law_1397 ⟨(by show 22 + k * 1173 + 71 ≤ 601024; omega), (by show 397 + k * 14243 + 421 ≤ 7293034; omega)⟩ hS (fun r8 u8 H2 locs2 hr8 hW hz hS => ?_)
  have e9 : r8 = r9 := by rw [show r8 = f_X5_digest N M from hr8, show r9 = f_X4_digest C N from hr9]; exact hq.1.symm
  subst e9
  refine W.lcmp hx hb dL_law_1400 ?_
  refine lv_if_eq (tgt := 1406) hx hb dL_law_1401 (by decide) (fun _ => ?_) (fun c8 => absurd (lg_cmp_self _) c8)
  refine W.widen (k := 22 + (k + 1) * 1173) (n := 397 + (k + 1) * 14243) (by omega) (by omega) ?_
  have hl : lv_has ls 9 [(4, .int (nI (4 * k))), (0, .ref b), (1, .ref (ad 0 0)), (2, .ref (ad 0 1)), (3, .ref (ad 0 2))] := lv_sub hl [0, 1, 2, 3, 4] rfl
  exact nx ad N C (s_X5_digest N M) o _ _ _ hW ((hq.2 C hR).mono (Nat.le_succ k)) (fun _ => rfl) hS hl
