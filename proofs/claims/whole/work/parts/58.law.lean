/-! THE LAW'S LOOP -/
section LAW
variable {l : Launch} {D : va_G} {kA : FieldType → ClassId} {B sa b N : Nat} {xs : Nat → Int32}
abbrev lwL (B b i : Nat) (l5 l6 : Option Value) : List (Option Value) := [some (.ref b), some (.ref (B + 0)), some (.ref (B + 226)), some (.ref (B + 244)), some (.int (nI i)), l5, l6]
abbrev lwG (l : Launch) (D : va_G) (kA : FieldType → ClassId) (B sa b N : Nat) (xs : Nat → Int32) (pc i uc us sz : Nat) (o : Int64) (m : mm_M) (l5 l6 : Option Value) : Prop := ec_W l D kA B (lwX B sa b N xs) room_1 lwZ mL_law uc us pc (lwL B b i l5 l6) [] (lay B sz o m)
def lwK (l : Launch) (D : va_G) (kA : FieldType → ClassId) (B sa b N : Nat) (xs : Nat → Int32) (i : Nat) : Prop := ∀ (uc us sz : Nat) (o : Int64) (m : mm_M) (S : sp_S) (l5 l6 : Option Value), uc ≤ 246 + i → us ≤ 13381 + 6 * i → cs m S → ms m S → lwG l D kA B sa b N xs 816 i uc us sz o m l5 l6
theorem lwXs (hN : N ≤ 2048) : ∀ s, lwX B sa b N xs s → va_X b N xs s s.heap ∧ b < B ∧ N ≤ 2048 := fun s h => ⟨h.2.1, h.2.2.1, hN⟩

set_option maxRecDepth 100000 in
theorem lw_c0 (hN : N ≤ 2048) {i uc us sz : Nat} {o : Int64} {m : mm_M} {S : sp_S} {l5 l6 : Option Value} (hi : i + 4 ≤ N) (huc : uc ≤ 245 + i) (hus : us ≤ 13375 + 6 * i) (hc : cs m S) (hm : ms m S) (k : lwK l D kA B sa b N xs i) : lwG l D kA B sa b N xs 136 i uc us sz o m l5 l6 := by
  have hXs := lwXs (B := B) (sa := sa) (b := b) (xs := xs) hN
  refine e_aload_n dL_law_136 rfl rfl ?_
  refine e_aload_n dL_law_137 rfl rfl ?_
  refine e_iload dL_law_138 rfl ?_
  refine e_iconst (v := nI 1) dL_law_140 (by decide) ?_
  refine e_iadd dL_law_141 ?_
  refine e_top (w := nI (i + 1)) (nI_add _ _) ?_
  refine e_sld hXs (n := i + 1) dL_law_142 rfl (by omega) (by omega) ?_
  refine m_callV (As := [_]) lc_L_19 dL_law_143 (ly_0 B _ _) rfl rfl (by simp [Value.category]) (Nat.le_of_ble_eq_true rfl) (Nat.le_of_ble_eq_true rfl) ⟨Nat.le_of_ble_eq_true rfl, Nat.le_of_ble_eq_true rfl⟩ ⟨by show _ ≤ 601024; omega, by show _ ≤ 7293034; omega⟩ (c_letter m (xs (i + 1)) hc) (fun v9 m1 hp9 => ?_)
  obtain ⟨y, S1, rfl, r1, hc1, f1⟩ := hp9
  refine e_aload_n dL_law_146 rfl rfl ?_
  refine e_aload_n dL_law_147 rfl rfl ?_
  refine e_iload dL_law_148 rfl ?_
  refine e_iconst (v := nI 1) dL_law_150 (by decide) ?_
  refine e_iadd dL_law_151 ?_
  refine e_top (w := nI (i + 1)) (nI_add _ _) ?_
  refine e_sld hXs (n := i + 1) dL_law_152 rfl (by omega) (by omega) ?_
  refine m_callV (As := [_]) lc_L_22 dL_law_153 (ly_226 B _ _) rfl rfl (by simp [Value.category]) (Nat.le_of_ble_eq_true rfl) (Nat.le_of_ble_eq_true rfl) ⟨Nat.le_of_ble_eq_true rfl, Nat.le_of_ble_eq_true rfl⟩ ⟨by show _ ≤ 601024; omega, by show _ ≤ 7293034; omega⟩ (r_letter m1 hc.1 (hm.frm f1) (xs (i + 1))) (fun v9 m2 hp9 => ?_)
  obtain ⟨y2, S2, rfl, r2, hm2, f2⟩ := hp9
  obtain ⟨rfl, rfl⟩ := R_letter_uniq r1 r2
  refine e_icmp_eq 816 dL_law_156 (by decide) (fun g => ?_) (fun g => ?_)
  · exact k _ _ _ _ _ _ _ _ (by omega) (by omega) (hc1.fw f2) hm2
  · exact absurd rfl g
set_option maxRecDepth 100000 in
theorem lw_c1 (hN : N ≤ 2048) {i uc us sz : Nat} {o : Int64} {m : mm_M} {S : sp_S} {l5 l6 : Option Value} (hi : i + 4 ≤ N) (huc : uc ≤ 245 + i) (hus : us ≤ 13375 + 6 * i) (hc : cs m S) (hm : ms m S) (k : lwK l D kA B sa b N xs i) : lwG l D kA B sa b N xs 161 i uc us sz o m l5 l6 := by
  have hXs := lwXs (B := B) (sa := sa) (b := b) (xs := xs) hN
  refine e_aload_n dL_law_161 rfl rfl ?_
  refine m_callV (As := []) lc_L_23 dL_law_162 (ly_0 B _ _) rfl rfl (by simp [Value.category]) (Nat.le_of_ble_eq_true rfl) (Nat.le_of_ble_eq_true rfl) ⟨Nat.le_of_ble_eq_true rfl, Nat.le_of_ble_eq_true rfl⟩ ⟨by show _ ≤ 601024; omega, by show _ ≤ 7293034; omega⟩ (c_clear m  hc) (fun v9 m1 hp9 => ?_)
  obtain ⟨rfl, hc1, f1⟩ := hp9
  refine e_aload_n dL_law_165 rfl rfl ?_
  refine m_callV (As := []) lc_L_27 dL_law_166 (ly_226 B _ _) rfl rfl (by simp [Value.category]) (Nat.le_of_ble_eq_true rfl) (Nat.le_of_ble_eq_true rfl) ⟨Nat.le_of_ble_eq_true rfl, Nat.le_of_ble_eq_true rfl⟩ ⟨by show _ ≤ 601024; omega, by show _ ≤ 7293034; omega⟩ (r_clear m1 (hm.frm f1)) (fun v9 m2 hp9 => ?_)
  obtain ⟨rfl, hm2, f2⟩ := hp9
  refine e_icmp_eq 816 dL_law_169 (by decide) (fun g => ?_) (fun g => ?_)
  · exact k _ _ _ _ _ _ _ _ (by omega) (by omega) (hc1.fw f2) hm2
  · exact absurd rfl g
set_option maxRecDepth 100000 in
theorem lw_c2 (hN : N ≤ 2048) {i uc us sz : Nat} {o : Int64} {m : mm_M} {S : sp_S} {l5 l6 : Option Value} (hi : i + 4 ≤ N) (huc : uc ≤ 245 + i) (hus : us ≤ 13375 + 6 * i) (hc : cs m S) (hm : ms m S) (k : lwK l D kA B sa b N xs i) : lwG l D kA B sa b N xs 174 i uc us sz o m l5 l6 := by
  have hXs := lwXs (B := B) (sa := sa) (b := b) (xs := xs) hN
  refine e_aload_n dL_law_174 rfl rfl ?_
  refine e_aload_n dL_law_175 rfl rfl ?_
  refine e_iload dL_law_176 rfl ?_
  refine e_iconst (v := nI 1) dL_law_178 (by decide) ?_
  refine e_iadd dL_law_179 ?_
  refine e_top (w := nI (i + 1)) (nI_add _ _) ?_
  refine e_sld hXs (n := i + 1) dL_law_180 rfl (by omega) (by omega) ?_
  refine m_callV (As := [_]) lc_L_28 dL_law_181 (ly_0 B _ _) rfl rfl (by simp [Value.category]) (Nat.le_of_ble_eq_true rfl) (Nat.le_of_ble_eq_true rfl) ⟨Nat.le_of_ble_eq_true rfl, Nat.le_of_ble_eq_true rfl⟩ ⟨by show _ ≤ 601024; omega, by show _ ≤ 7293034; omega⟩ (c_word m (xs (i + 1)) hc) (fun v9 m1 hp9 => ?_)
  obtain ⟨y, S1, rfl, r1, hc1, f1⟩ := hp9
  refine e_aload_n dL_law_184 rfl rfl ?_
  refine e_aload_n dL_law_185 rfl rfl ?_
  refine e_iload dL_law_186 rfl ?_
  refine e_iconst (v := nI 1) dL_law_188 (by decide) ?_
  refine e_iadd dL_law_189 ?_
  refine e_top (w := nI (i + 1)) (nI_add _ _) ?_
  refine e_sld hXs (n := i + 1) dL_law_190 rfl (by omega) (by omega) ?_
  refine m_callV (As := [_]) lc_L_31 dL_law_191 (ly_226 B _ _) rfl rfl (by simp [Value.category]) (Nat.le_of_ble_eq_true rfl) (Nat.le_of_ble_eq_true rfl) ⟨Nat.le_of_ble_eq_true rfl, Nat.le_of_ble_eq_true rfl⟩ ⟨by show _ ≤ 601024; omega, by show _ ≤ 7293034; omega⟩ (r_word m1 hc.1 (hm.frm f1) (xs (i + 1))) (fun v9 m2 hp9 => ?_)
  obtain ⟨y2, S2, rfl, r2, hm2, f2⟩ := hp9
  obtain ⟨rfl, rfl⟩ := R_word_uniq r1 r2
  refine e_icmp_eq 816 dL_law_194 (by decide) (fun g => ?_) (fun g => ?_)
  · exact k _ _ _ _ _ _ _ _ (by omega) (by omega) (hc1.fw f2) hm2
  · exact absurd rfl g
set_option maxRecDepth 100000 in
theorem lw_c3 (hN : N ≤ 2048) {i uc us sz : Nat} {o : Int64} {m : mm_M} {S : sp_S} {l5 l6 : Option Value} (hi : i + 4 ≤ N) (huc : uc ≤ 245 + i) (hus : us ≤ 13375 + 6 * i) (hc : cs m S) (hm : ms m S) (k : lwK l D kA B sa b N xs i) : lwG l D kA B sa b N xs 199 i uc us sz o m l5 l6 := by
  have hXs := lwXs (B := B) (sa := sa) (b := b) (xs := xs) hN
  refine e_aload_n dL_law_199 rfl rfl ?_
  refine e_aload_n dL_law_200 rfl rfl ?_
  refine e_iload dL_law_201 rfl ?_
  refine e_iconst (v := nI 1) dL_law_203 (by decide) ?_
  refine e_iadd dL_law_204 ?_
  refine e_top (w := nI (i + 1)) (nI_add _ _) ?_
  refine e_sld hXs (n := i + 1) dL_law_205 rfl (by omega) (by omega) ?_
  refine e_aload_n dL_law_206 rfl rfl ?_
  refine e_iload dL_law_207 rfl ?_
  refine e_iconst (v := nI 2) dL_law_209 (by decide) ?_
  refine e_iadd dL_law_210 ?_
  refine e_top (w := nI (i + 2)) (nI_add _ _) ?_
  refine e_sld hXs (n := i + 2) dL_law_211 rfl (by omega) (by omega) ?_
  refine m_callV (As := [_, _]) lc_L_32 dL_law_212 (ly_0 B _ _) rfl rfl (by simp [Value.category]) (Nat.le_of_ble_eq_true rfl) (Nat.le_of_ble_eq_true rfl) ⟨Nat.le_of_ble_eq_true rfl, Nat.le_of_ble_eq_true rfl⟩ ⟨by show _ ≤ 601024; omega, by show _ ≤ 7293034; omega⟩ (c_count m (xs (i + 1)) (xs (i + 2)) hc) (fun v9 m1 hp9 => ?_)
  obtain ⟨y, S1, rfl, r1, hc1, f1⟩ := hp9
  refine e_aload_n dL_law_215 rfl rfl ?_
  refine e_aload_n dL_law_216 rfl rfl ?_
  refine e_iload dL_law_217 rfl ?_
  refine e_iconst (v := nI 1) dL_law_219 (by decide) ?_
  refine e_iadd dL_law_220 ?_
  refine e_top (w := nI (i + 1)) (nI_add _ _) ?_
  refine e_sld hXs (n := i + 1) dL_law_221 rfl (by omega) (by omega) ?_
  refine e_aload_n dL_law_222 rfl rfl ?_
  refine e_iload dL_law_223 rfl ?_
  refine e_iconst (v := nI 2) dL_law_225 (by decide) ?_
  refine e_iadd dL_law_226 ?_
  refine e_top (w := nI (i + 2)) (nI_add _ _) ?_
  refine e_sld hXs (n := i + 2) dL_law_227 rfl (by omega) (by omega) ?_
  refine m_callV (As := [_, _]) lc_L_36 dL_law_228 (ly_226 B _ _) rfl rfl (by simp [Value.category]) (Nat.le_of_ble_eq_true rfl) (Nat.le_of_ble_eq_true rfl) ⟨Nat.le_of_ble_eq_true rfl, Nat.le_of_ble_eq_true rfl⟩ ⟨by show _ ≤ 601024; omega, by show _ ≤ 7293034; omega⟩ (r_count m1 hc.1 (hm.frm f1) (xs (i + 1)) (xs (i + 2))) (fun v9 m2 hp9 => ?_)
  obtain ⟨y2, S2, rfl, r2, hm2, f2⟩ := hp9
  obtain ⟨rfl, rfl⟩ := R_count_uniq hc.1 r1 r2
  refine e_icmp_eq 816 dL_law_231 (by decide) (fun g => ?_) (fun g => ?_)
  · exact k _ _ _ _ _ _ _ _ (by omega) (by omega) (hc1.fw f2) hm2
  · exact absurd rfl g
set_option maxRecDepth 100000 in
theorem lw_c4 (hN : N ≤ 2048) {i uc us sz : Nat} {o : Int64} {m : mm_M} {S : sp_S} {l5 l6 : Option Value} (hi : i + 4 ≤ N) (huc : uc ≤ 245 + i) (hus : us ≤ 13375 + 6 * i) (hc : cs m S) (hm : ms m S) (k : lwK l D kA B sa b N xs i) : lwG l D kA B sa b N xs 236 i uc us sz o m l5 l6 := by
  have hXs := lwXs (B := B) (sa := sa) (b := b) (xs := xs) hN
  refine e_aload_n dL_law_236 rfl rfl ?_
  refine e_aload_n dL_law_237 rfl rfl ?_
  refine e_iload dL_law_238 rfl ?_
  refine e_iconst (v := nI 1) dL_law_240 (by decide) ?_
  refine e_iadd dL_law_241 ?_
  refine e_top (w := nI (i + 1)) (nI_add _ _) ?_
  refine e_sld hXs (n := i + 1) dL_law_242 rfl (by omega) (by omega) ?_
  refine e_aload_n dL_law_243 rfl rfl ?_
  refine e_iload dL_law_244 rfl ?_
  refine e_iconst (v := nI 2) dL_law_246 (by decide) ?_
  refine e_iadd dL_law_247 ?_
  refine e_top (w := nI (i + 2)) (nI_add _ _) ?_
  refine e_sld hXs (n := i + 2) dL_law_248 rfl (by omega) (by omega) ?_
  refine m_callV (As := [_, _]) lc_L_37 dL_law_249 (ly_0 B _ _) rfl rfl (by simp [Value.category]) (Nat.le_of_ble_eq_true rfl) (Nat.le_of_ble_eq_true rfl) ⟨Nat.le_of_ble_eq_true rfl, Nat.le_of_ble_eq_true rfl⟩ ⟨by show _ ≤ 601024; omega, by show _ ≤ 7293034; omega⟩ (c_at m (xs (i + 1)) (xs (i + 2)) hc) (fun v9 m1 hp9 => ?_)
  obtain ⟨⟨y, rfl, r1⟩, f1⟩ := hp9
  refine e_aload_n dL_law_252 rfl rfl ?_
  refine e_aload_n dL_law_253 rfl rfl ?_
  refine e_iload dL_law_254 rfl ?_
  refine e_iconst (v := nI 1) dL_law_256 (by decide) ?_
  refine e_iadd dL_law_257 ?_
  refine e_top (w := nI (i + 1)) (nI_add _ _) ?_
  refine e_sld hXs (n := i + 1) dL_law_258 rfl (by omega) (by omega) ?_
  refine e_aload_n dL_law_259 rfl rfl ?_
  refine e_iload dL_law_260 rfl ?_
  refine e_iconst (v := nI 2) dL_law_262 (by decide) ?_
  refine e_iadd dL_law_263 ?_
  refine e_top (w := nI (i + 2)) (nI_add _ _) ?_
  refine e_sld hXs (n := i + 2) dL_law_264 rfl (by omega) (by omega) ?_
  refine m_callV (As := [_, _]) lc_L_40 dL_law_265 (ly_226 B _ _) rfl rfl (by simp [Value.category]) (Nat.le_of_ble_eq_true rfl) (Nat.le_of_ble_eq_true rfl) ⟨Nat.le_of_ble_eq_true rfl, Nat.le_of_ble_eq_true rfl⟩ ⟨by show _ ≤ 601024; omega, by show _ ≤ 7293034; omega⟩ (r_at m1 hc.1 (hm.frm f1.frm) (xs (i + 1)) (xs (i + 2))) (fun v9 m2 hp9 => ?_)
  obtain ⟨⟨y2, rfl, r2⟩, hm2, f2⟩ := hp9
  have e9 := R_at_uniq hc.1 r1 r2
  subst e9
  refine e_icmp_eq 816 dL_law_268 (by decide) (fun g => ?_) (fun g => ?_)
  · exact k _ _ _ _ _ _ _ _ (by omega) (by omega) ((hc.fr f1).fw f2) hm2
  · exact absurd rfl g
set_option maxRecDepth 100000 in
theorem lw_c5 (hN : N ≤ 2048) {i uc us sz : Nat} {o : Int64} {m : mm_M} {S : sp_S} {l5 l6 : Option Value} (hi : i + 4 ≤ N) (huc : uc ≤ 245 + i) (hus : us ≤ 13375 + 6 * i) (hc : cs m S) (hm : ms m S) (k : lwK l D kA B sa b N xs i) : lwG l D kA B sa b N xs 273 i uc us sz o m l5 l6 := by
  have hXs := lwXs (B := B) (sa := sa) (b := b) (xs := xs) hN
  refine e_aload_n dL_law_273 rfl rfl ?_
  refine e_aload_n dL_law_274 rfl rfl ?_
  refine e_iload dL_law_275 rfl ?_
  refine e_iconst (v := nI 1) dL_law_277 (by decide) ?_
  refine e_iadd dL_law_278 ?_
  refine e_top (w := nI (i + 1)) (nI_add _ _) ?_
  refine e_sld hXs (n := i + 1) dL_law_279 rfl (by omega) (by omega) ?_
  refine e_aload_n dL_law_280 rfl rfl ?_
  refine e_iload dL_law_281 rfl ?_
  refine e_iconst (v := nI 2) dL_law_283 (by decide) ?_
  refine e_iadd dL_law_284 ?_
  refine e_top (w := nI (i + 2)) (nI_add _ _) ?_
  refine e_sld hXs (n := i + 2) dL_law_285 rfl (by omega) (by omega) ?_
  refine m_callV (As := [_, _]) lc_L_41 dL_law_286 (ly_0 B _ _) rfl rfl (by simp [Value.category]) (Nat.le_of_ble_eq_true rfl) (Nat.le_of_ble_eq_true rfl) ⟨Nat.le_of_ble_eq_true rfl, Nat.le_of_ble_eq_true rfl⟩ ⟨by show _ ≤ 601024; omega, by show _ ≤ 7293034; omega⟩ (c_price m (xs (i + 1)) (xs (i + 2)) hc) (fun v9 m1 hp9 => ?_)
  obtain ⟨y, S1, rfl, r1, hc1, f1⟩ := hp9
  refine e_aload_n dL_law_289 rfl rfl ?_
  refine e_aload_n dL_law_290 rfl rfl ?_
  refine e_iload dL_law_291 rfl ?_
  refine e_iconst (v := nI 1) dL_law_293 (by decide) ?_
  refine e_iadd dL_law_294 ?_
  refine e_top (w := nI (i + 1)) (nI_add _ _) ?_
  refine e_sld hXs (n := i + 1) dL_law_295 rfl (by omega) (by omega) ?_
  refine e_aload_n dL_law_296 rfl rfl ?_
  refine e_iload dL_law_297 rfl ?_
  refine e_iconst (v := nI 2) dL_law_299 (by decide) ?_
  refine e_iadd dL_law_300 ?_
  refine e_top (w := nI (i + 2)) (nI_add _ _) ?_
  refine e_sld hXs (n := i + 2) dL_law_301 rfl (by omega) (by omega) ?_
  refine m_callV (As := [_, _]) lc_L_44 dL_law_302 (ly_226 B _ _) rfl rfl (by simp [Value.category]) (Nat.le_of_ble_eq_true rfl) (Nat.le_of_ble_eq_true rfl) ⟨Nat.le_of_ble_eq_true rfl, Nat.le_of_ble_eq_true rfl⟩ ⟨by show _ ≤ 601024; omega, by show _ ≤ 7293034; omega⟩ (r_price m1 (hm.frm f1) (xs (i + 1)) (xs (i + 2))) (fun v9 m2 hp9 => ?_)
  obtain ⟨y2, S2, rfl, r2, hm2, f2⟩ := hp9
  obtain ⟨rfl, rfl⟩ := R_price_uniq r1 r2
  refine e_icmp_eq 816 dL_law_305 (by decide) (fun g => ?_) (fun g => ?_)
  · exact k _ _ _ _ _ _ _ _ (by omega) (by omega) (hc1.fw f2) hm2
  · exact absurd rfl g
set_option maxRecDepth 100000 in
theorem lw_c6 (hN : N ≤ 2048) {i uc us sz : Nat} {o : Int64} {m : mm_M} {S : sp_S} {l5 l6 : Option Value} (hi : i + 4 ≤ N) (huc : uc ≤ 245 + i) (hus : us ≤ 13375 + 6 * i) (hc : cs m S) (hm : ms m S) (k : lwK l D kA B sa b N xs i) : lwG l D kA B sa b N xs 310 i uc us sz o m l5 l6 := by
  have hXs := lwXs (B := B) (sa := sa) (b := b) (xs := xs) hN
  refine e_aload_n dL_law_310 rfl rfl ?_
  refine e_aload_n dL_law_311 rfl rfl ?_
  refine e_iload dL_law_312 rfl ?_
  refine e_iconst (v := nI 1) dL_law_314 (by decide) ?_
  refine e_iadd dL_law_315 ?_
  refine e_top (w := nI (i + 1)) (nI_add _ _) ?_
  refine e_sld hXs (n := i + 1) dL_law_316 rfl (by omega) (by omega) ?_
  refine e_aload_n dL_law_317 rfl rfl ?_
  refine e_iload dL_law_318 rfl ?_
  refine e_iconst (v := nI 2) dL_law_320 (by decide) ?_
  refine e_iadd dL_law_321 ?_
  refine e_top (w := nI (i + 2)) (nI_add _ _) ?_
  refine e_sld hXs (n := i + 2) dL_law_322 rfl (by omega) (by omega) ?_
  refine e_aload_n dL_law_323 rfl rfl ?_
  refine e_iload dL_law_324 rfl ?_
  refine e_iconst (v := nI 3) dL_law_326 (by decide) ?_
  refine e_iadd dL_law_327 ?_
  refine e_top (w := nI (i + 3)) (nI_add _ _) ?_
  refine e_sld hXs (n := i + 3) dL_law_328 rfl (by omega) (by omega) ?_
  refine m_callV (As := [_, _, _]) lc_L_45 dL_law_329 (ly_0 B _ _) rfl rfl (by simp [Value.category]) (Nat.le_of_ble_eq_true rfl) (Nat.le_of_ble_eq_true rfl) ⟨Nat.le_of_ble_eq_true rfl, Nat.le_of_ble_eq_true rfl⟩ ⟨by show _ ≤ 601024; omega, by show _ ≤ 7293034; omega⟩ (c_near m (xs (i + 1)) (xs (i + 2)) (xs (i + 3)) hc) (fun v9 m1 hp9 => ?_)
  obtain ⟨y, S1, rfl, r1, hc1, f1⟩ := hp9
  refine e_aload_n dL_law_332 rfl rfl ?_
  refine e_aload_n dL_law_333 rfl rfl ?_
  refine e_iload dL_law_334 rfl ?_
  refine e_iconst (v := nI 1) dL_law_336 (by decide) ?_
  refine e_iadd dL_law_337 ?_
  refine e_top (w := nI (i + 1)) (nI_add _ _) ?_
  refine e_sld hXs (n := i + 1) dL_law_338 rfl (by omega) (by omega) ?_
  refine e_aload_n dL_law_339 rfl rfl ?_
  refine e_iload dL_law_340 rfl ?_
  refine e_iconst (v := nI 2) dL_law_342 (by decide) ?_
  refine e_iadd dL_law_343 ?_
  refine e_top (w := nI (i + 2)) (nI_add _ _) ?_
  refine e_sld hXs (n := i + 2) dL_law_344 rfl (by omega) (by omega) ?_
  refine e_aload_n dL_law_345 rfl rfl ?_
  refine e_iload dL_law_346 rfl ?_
  refine e_iconst (v := nI 3) dL_law_348 (by decide) ?_
  refine e_iadd dL_law_349 ?_
  refine e_top (w := nI (i + 3)) (nI_add _ _) ?_
  refine e_sld hXs (n := i + 3) dL_law_350 rfl (by omega) (by omega) ?_
  refine m_callV (As := [_, _, _]) lc_L_49 dL_law_351 (ly_226 B _ _) rfl rfl (by simp [Value.category]) (Nat.le_of_ble_eq_true rfl) (Nat.le_of_ble_eq_true rfl) ⟨Nat.le_of_ble_eq_true rfl, Nat.le_of_ble_eq_true rfl⟩ ⟨by show _ ≤ 601024; omega, by show _ ≤ 7293034; omega⟩ (r_near m1 hc.1 (hm.frm f1) (xs (i + 1)) (xs (i + 2)) (xs (i + 3))) (fun v9 m2 hp9 => ?_)
  obtain ⟨y2, S2, rfl, r2, hm2, f2⟩ := hp9
  obtain ⟨rfl, rfl⟩ := R_near_uniq r1 r2
  refine e_icmp_eq 816 dL_law_354 (by decide) (fun g => ?_) (fun g => ?_)
  · exact k _ _ _ _ _ _ _ _ (by omega) (by omega) (hc1.fw f2) hm2
  · exact absurd rfl g
set_option maxRecDepth 100000 in
theorem lw_c7 (hN : N ≤ 2048) {i uc us sz : Nat} {o : Int64} {m : mm_M} {S : sp_S} {l5 l6 : Option Value} (hi : i + 4 ≤ N) (huc : uc ≤ 245 + i) (hus : us ≤ 13375 + 6 * i) (hc : cs m S) (hm : ms m S) (k : lwK l D kA B sa b N xs i) : lwG l D kA B sa b N xs 359 i uc us sz o m l5 l6 := by
  have hXs := lwXs (B := B) (sa := sa) (b := b) (xs := xs) hN
  refine e_aload_n dL_law_359 rfl rfl ?_
  refine e_aload_n dL_law_360 rfl rfl ?_
  refine e_iload dL_law_361 rfl ?_
  refine e_iconst (v := nI 1) dL_law_363 (by decide) ?_
  refine e_iadd dL_law_364 ?_
  refine e_top (w := nI (i + 1)) (nI_add _ _) ?_
  refine e_sld hXs (n := i + 1) dL_law_365 rfl (by omega) (by omega) ?_
  refine m_callV (As := [_]) lc_L_50 dL_law_366 (ly_0 B _ _) rfl rfl (by simp [Value.category]) (Nat.le_of_ble_eq_true rfl) (Nat.le_of_ble_eq_true rfl) ⟨Nat.le_of_ble_eq_true rfl, Nat.le_of_ble_eq_true rfl⟩ ⟨by show _ ≤ 601024; omega, by show _ ≤ 7293034; omega⟩ (c_distance m (xs (i + 1)) hc) (fun v9 m1 hp9 => ?_)
  obtain ⟨⟨y, rfl, r1⟩, f1⟩ := hp9
  refine e_aload_n dL_law_369 rfl rfl ?_
  refine e_aload_n dL_law_370 rfl rfl ?_
  refine e_iload dL_law_371 rfl ?_
  refine e_iconst (v := nI 1) dL_law_373 (by decide) ?_
  refine e_iadd dL_law_374 ?_
  refine e_top (w := nI (i + 1)) (nI_add _ _) ?_
  refine e_sld hXs (n := i + 1) dL_law_375 rfl (by omega) (by omega) ?_
  refine m_callV (As := [_]) lc_L_53 dL_law_376 (ly_226 B _ _) rfl rfl (by simp [Value.category]) (Nat.le_of_ble_eq_true rfl) (Nat.le_of_ble_eq_true rfl) ⟨Nat.le_of_ble_eq_true rfl, Nat.le_of_ble_eq_true rfl⟩ ⟨by show _ ≤ 601024; omega, by show _ ≤ 7293034; omega⟩ (r_distance m1 hc.1 (hm.frm f1.frm) (xs (i + 1))) (fun v9 m2 hp9 => ?_)
  obtain ⟨⟨y2, rfl, r2⟩, hm2, f2⟩ := hp9
  have e9 := R_dist_uniq hc.1 r1 r2
  subst e9
  refine e_icmp_eq 816 dL_law_379 (by decide) (fun g => ?_) (fun g => ?_)
  · exact k _ _ _ _ _ _ _ _ (by omega) (by omega) ((hc.fr f1).fw f2) hm2
  · exact absurd rfl g
set_option maxRecDepth 100000 in
theorem lw_c8 (hN : N ≤ 2048) {i uc us sz : Nat} {o : Int64} {m : mm_M} {S : sp_S} {l5 l6 : Option Value} (hi : i + 4 ≤ N) (huc : uc ≤ 245 + i) (hus : us ≤ 13375 + 6 * i) (hc : cs m S) (hm : ms m S) (k : lwK l D kA B sa b N xs i) : lwG l D kA B sa b N xs 384 i uc us sz o m l5 l6 := by
  have hXs := lwXs (B := B) (sa := sa) (b := b) (xs := xs) hN
  refine e_aload_n dL_law_384 rfl rfl ?_
  refine e_aload_n dL_law_385 rfl rfl ?_
  refine e_iload dL_law_386 rfl ?_
  refine e_iconst (v := nI 1) dL_law_388 (by decide) ?_
  refine e_iadd dL_law_389 ?_
  refine e_top (w := nI (i + 1)) (nI_add _ _) ?_
  refine e_sld hXs (n := i + 1) dL_law_390 rfl (by omega) (by omega) ?_
  refine m_callV (As := [_]) lc_L_54 dL_law_391 (ly_0 B _ _) rfl rfl (by simp [Value.category]) (Nat.le_of_ble_eq_true rfl) (Nat.le_of_ble_eq_true rfl) ⟨Nat.le_of_ble_eq_true rfl, Nat.le_of_ble_eq_true rfl⟩ ⟨by show _ ≤ 601024; omega, by show _ ≤ 7293034; omega⟩ (c_begins m (xs (i + 1)) hc) (fun v9 m1 hp9 => ?_)
  obtain ⟨⟨y, rfl, r1⟩, f1⟩ := hp9
  refine e_aload_n dL_law_394 rfl rfl ?_
  refine e_aload_n dL_law_395 rfl rfl ?_
  refine e_iload dL_law_396 rfl ?_
  refine e_iconst (v := nI 1) dL_law_398 (by decide) ?_
  refine e_iadd dL_law_399 ?_
  refine e_top (w := nI (i + 1)) (nI_add _ _) ?_
  refine e_sld hXs (n := i + 1) dL_law_400 rfl (by omega) (by omega) ?_
  refine m_callV (As := [_]) lc_L_57 dL_law_401 (ly_226 B _ _) rfl rfl (by simp [Value.category]) (Nat.le_of_ble_eq_true rfl) (Nat.le_of_ble_eq_true rfl) ⟨Nat.le_of_ble_eq_true rfl, Nat.le_of_ble_eq_true rfl⟩ ⟨by show _ ≤ 601024; omega, by show _ ≤ 7293034; omega⟩ (r_begins m1 hc.1 (hm.frm f1.frm) (xs (i + 1))) (fun v9 m2 hp9 => ?_)
  obtain ⟨⟨y2, rfl, r2⟩, hm2, f2⟩ := hp9
  have e9 := R_dist_uniq hc.1 r1 r2
  subst e9
  refine e_icmp_eq 816 dL_law_404 (by decide) (fun g => ?_) (fun g => ?_)
  · exact k _ _ _ _ _ _ _ _ (by omega) (by omega) ((hc.fr f1).fw f2) hm2
  · exact absurd rfl g
set_option maxRecDepth 100000 in
theorem lw_c9 (hN : N ≤ 2048) {i uc us sz : Nat} {o : Int64} {m : mm_M} {S : sp_S} {l5 l6 : Option Value} (hi : i + 4 ≤ N) (huc : uc ≤ 245 + i) (hus : us ≤ 13375 + 6 * i) (hc : cs m S) (hm : ms m S) (k : lwK l D kA B sa b N xs i) : lwG l D kA B sa b N xs 409 i uc us sz o m l5 l6 := by
  have hXs := lwXs (B := B) (sa := sa) (b := b) (xs := xs) hN
  refine e_aload_n dL_law_409 rfl rfl ?_
  refine e_aload_n dL_law_410 rfl rfl ?_
  refine e_iload dL_law_411 rfl ?_
  refine e_iconst (v := nI 1) dL_law_413 (by decide) ?_
  refine e_iadd dL_law_414 ?_
  refine e_top (w := nI (i + 1)) (nI_add _ _) ?_
  refine e_sld hXs (n := i + 1) dL_law_415 rfl (by omega) (by omega) ?_
  refine e_aload_n dL_law_416 rfl rfl ?_
  refine e_iload dL_law_417 rfl ?_
  refine e_iconst (v := nI 2) dL_law_419 (by decide) ?_
  refine e_iadd dL_law_420 ?_
  refine e_top (w := nI (i + 2)) (nI_add _ _) ?_
  refine e_sld hXs (n := i + 2) dL_law_421 rfl (by omega) (by omega) ?_
  refine m_callV (As := [_, _]) lc_L_58 dL_law_422 (ly_0 B _ _) rfl rfl (by simp [Value.category]) (Nat.le_of_ble_eq_true rfl) (Nat.le_of_ble_eq_true rfl) ⟨Nat.le_of_ble_eq_true rfl, Nat.le_of_ble_eq_true rfl⟩ ⟨by show _ ≤ 601024; omega, by show _ ≤ 7293034; omega⟩ (c_edit m (xs (i + 1)) (xs (i + 2)) hc) (fun v9 m1 hp9 => ?_)
  obtain ⟨⟨y, rfl, r1⟩, f1⟩ := hp9
  refine e_aload_n dL_law_425 rfl rfl ?_
  refine e_aload_n dL_law_426 rfl rfl ?_
  refine e_iload dL_law_427 rfl ?_
  refine e_iconst (v := nI 1) dL_law_429 (by decide) ?_
  refine e_iadd dL_law_430 ?_
  refine e_top (w := nI (i + 1)) (nI_add _ _) ?_
  refine e_sld hXs (n := i + 1) dL_law_431 rfl (by omega) (by omega) ?_
  refine e_aload_n dL_law_432 rfl rfl ?_
  refine e_iload dL_law_433 rfl ?_
  refine e_iconst (v := nI 2) dL_law_435 (by decide) ?_
  refine e_iadd dL_law_436 ?_
  refine e_top (w := nI (i + 2)) (nI_add _ _) ?_
  refine e_sld hXs (n := i + 2) dL_law_437 rfl (by omega) (by omega) ?_
  refine m_callV (As := [_, _]) lc_L_61 dL_law_438 (ly_226 B _ _) rfl rfl (by simp [Value.category]) (Nat.le_of_ble_eq_true rfl) (Nat.le_of_ble_eq_true rfl) ⟨Nat.le_of_ble_eq_true rfl, Nat.le_of_ble_eq_true rfl⟩ ⟨by show _ ≤ 601024; omega, by show _ ≤ 7293034; omega⟩ (r_edit m1 hc.1 (hm.frm f1.frm) (xs (i + 1)) (xs (i + 2))) (fun v9 m2 hp9 => ?_)
  obtain ⟨⟨y2, rfl, r2⟩, hm2, f2⟩ := hp9
  have e9 := R_edit_uniq hc.1 r1 r2
  subst e9
  refine e_icmp_eq 816 dL_law_441 (by decide) (fun g => ?_) (fun g => ?_)
  · exact k _ _ _ _ _ _ _ _ (by omega) (by omega) ((hc.fr f1).fw f2) hm2
  · exact absurd rfl g
set_option maxRecDepth 100000 in
theorem lw_c10 (hN : N ≤ 2048) {i uc us sz : Nat} {o : Int64} {m : mm_M} {S : sp_S} {l5 l6 : Option Value} (hi : i + 4 ≤ N) (huc : uc ≤ 245 + i) (hus : us ≤ 13375 + 6 * i) (hc : cs m S) (hm : ms m S) (k : lwK l D kA B sa b N xs i) : lwG l D kA B sa b N xs 446 i uc us sz o m l5 l6 := by
  have hXs := lwXs (B := B) (sa := sa) (b := b) (xs := xs) hN
  refine e_aload_n dL_law_446 rfl rfl ?_
  refine e_aload_n dL_law_447 rfl rfl ?_
  refine e_iload dL_law_448 rfl ?_
  refine e_iconst (v := nI 1) dL_law_450 (by decide) ?_
  refine e_iadd dL_law_451 ?_
  refine e_top (w := nI (i + 1)) (nI_add _ _) ?_
  refine e_sld hXs (n := i + 1) dL_law_452 rfl (by omega) (by omega) ?_
  refine e_aload_n dL_law_453 rfl rfl ?_
  refine e_iload dL_law_454 rfl ?_
  refine e_iconst (v := nI 2) dL_law_456 (by decide) ?_
  refine e_iadd dL_law_457 ?_
  refine e_top (w := nI (i + 2)) (nI_add _ _) ?_
  refine e_sld hXs (n := i + 2) dL_law_458 rfl (by omega) (by omega) ?_
  refine m_callV (As := [_, _]) lc_L_62 dL_law_459 (ly_0 B _ _) rfl rfl (by simp [Value.category]) (Nat.le_of_ble_eq_true rfl) (Nat.le_of_ble_eq_true rfl) ⟨Nat.le_of_ble_eq_true rfl, Nat.le_of_ble_eq_true rfl⟩ ⟨by show _ ≤ 601024; omega, by show _ ≤ 7293034; omega⟩ (c_place m (xs (i + 1)) (xs (i + 2)) hc) (fun v9 m1 hp9 => ?_)
  obtain ⟨⟨y, rfl, r1⟩, f1⟩ := hp9
  refine e_aload_n dL_law_462 rfl rfl ?_
  refine e_aload_n dL_law_463 rfl rfl ?_
  refine e_iload dL_law_464 rfl ?_
  refine e_iconst (v := nI 1) dL_law_466 (by decide) ?_
  refine e_iadd dL_law_467 ?_
  refine e_top (w := nI (i + 1)) (nI_add _ _) ?_
  refine e_sld hXs (n := i + 1) dL_law_468 rfl (by omega) (by omega) ?_
  refine e_aload_n dL_law_469 rfl rfl ?_
  refine e_iload dL_law_470 rfl ?_
  refine e_iconst (v := nI 2) dL_law_472 (by decide) ?_
  refine e_iadd dL_law_473 ?_
  refine e_top (w := nI (i + 2)) (nI_add _ _) ?_
  refine e_sld hXs (n := i + 2) dL_law_474 rfl (by omega) (by omega) ?_
  refine m_callV (As := [_, _]) lc_L_65 dL_law_475 (ly_226 B _ _) rfl rfl (by simp [Value.category]) (Nat.le_of_ble_eq_true rfl) (Nat.le_of_ble_eq_true rfl) ⟨Nat.le_of_ble_eq_true rfl, Nat.le_of_ble_eq_true rfl⟩ ⟨by show _ ≤ 601024; omega, by show _ ≤ 7293034; omega⟩ (r_place m1 hc.1 (hm.frm f1.frm) (xs (i + 1)) (xs (i + 2))) (fun v9 m2 hp9 => ?_)
  obtain ⟨⟨y2, rfl, r2⟩, hm2, f2⟩ := hp9
  have e9 := R_place_uniq hc.1 r1 r2
  subst e9
  refine e_icmp_eq 816 dL_law_478 (by decide) (fun g => ?_) (fun g => ?_)
  · exact k _ _ _ _ _ _ _ _ (by omega) (by omega) ((hc.fr f1).fw f2) hm2
  · exact absurd rfl g
set_option maxRecDepth 100000 in
theorem lw_c11 (hN : N ≤ 2048) {i uc us sz : Nat} {o : Int64} {m : mm_M} {S : sp_S} {l5 l6 : Option Value} (hi : i + 4 ≤ N) (huc : uc ≤ 245 + i) (hus : us ≤ 13375 + 6 * i) (hc : cs m S) (hm : ms m S) (k : lwK l D kA B sa b N xs i) : lwG l D kA B sa b N xs 483 i uc us sz o m l5 l6 := by
  have hXs := lwXs (B := B) (sa := sa) (b := b) (xs := xs) hN
  refine e_aload_n dL_law_483 rfl rfl ?_
  refine e_aload_n dL_law_484 rfl rfl ?_
  refine e_iload dL_law_485 rfl ?_
  refine e_iconst (v := nI 1) dL_law_487 (by decide) ?_
  refine e_iadd dL_law_488 ?_
  refine e_top (w := nI (i + 1)) (nI_add _ _) ?_
  refine e_sld hXs (n := i + 1) dL_law_489 rfl (by omega) (by omega) ?_
  refine m_callV (As := [_]) lc_L_66 dL_law_490 (ly_0 B _ _) rfl rfl (by simp [Value.category]) (Nat.le_of_ble_eq_true rfl) (Nat.le_of_ble_eq_true rfl) ⟨Nat.le_of_ble_eq_true rfl, Nat.le_of_ble_eq_true rfl⟩ ⟨by show _ ≤ 601024; omega, by show _ ≤ 7293034; omega⟩ (c_suggest m (xs (i + 1)) hc) (fun v9 m1 hp9 => ?_)
  obtain ⟨⟨y, rfl, r1⟩, f1⟩ := hp9
  refine e_aload_n dL_law_493 rfl rfl ?_
  refine e_aload_n dL_law_494 rfl rfl ?_
  refine e_iload dL_law_495 rfl ?_
  refine e_iconst (v := nI 1) dL_law_497 (by decide) ?_
  refine e_iadd dL_law_498 ?_
  refine e_top (w := nI (i + 1)) (nI_add _ _) ?_
  refine e_sld hXs (n := i + 1) dL_law_499 rfl (by omega) (by omega) ?_
  refine m_callV (As := [_]) lc_L_69 dL_law_500 (ly_226 B _ _) rfl rfl (by simp [Value.category]) (Nat.le_of_ble_eq_true rfl) (Nat.le_of_ble_eq_true rfl) ⟨Nat.le_of_ble_eq_true rfl, Nat.le_of_ble_eq_true rfl⟩ ⟨by show _ ≤ 601024; omega, by show _ ≤ 7293034; omega⟩ (r_suggest m1 hc.1 (hm.frm f1.frm) (xs (i + 1))) (fun v9 m2 hp9 => ?_)
  obtain ⟨⟨y2, rfl, r2⟩, hm2, f2⟩ := hp9
  have e9 := R_many_uniq r1 r2
  subst e9
  refine e_icmp_eq 816 dL_law_503 (by decide) (fun g => ?_) (fun g => ?_)
  · exact k _ _ _ _ _ _ _ _ (by omega) (by omega) ((hc.fr f1).fw f2) hm2
  · exact absurd rfl g
set_option maxRecDepth 100000 in
theorem lw_c12 (hN : N ≤ 2048) {i uc us sz : Nat} {o : Int64} {m : mm_M} {S : sp_S} {l5 l6 : Option Value} (hi : i + 4 ≤ N) (huc : uc ≤ 245 + i) (hus : us ≤ 13375 + 6 * i) (hc : cs m S) (hm : ms m S) (k : lwK l D kA B sa b N xs i) : lwG l D kA B sa b N xs 508 i uc us sz o m l5 l6 := by
  have hXs := lwXs (B := B) (sa := sa) (b := b) (xs := xs) hN
  refine e_aload_n dL_law_508 rfl rfl ?_
  refine e_aload_n dL_law_509 rfl rfl ?_
  refine e_iload dL_law_510 rfl ?_
  refine e_iconst (v := nI 1) dL_law_512 (by decide) ?_
  refine e_iadd dL_law_513 ?_
  refine e_top (w := nI (i + 1)) (nI_add _ _) ?_
  refine e_sld hXs (n := i + 1) dL_law_514 rfl (by omega) (by omega) ?_
  refine e_aload_n dL_law_515 rfl rfl ?_
  refine e_iload dL_law_516 rfl ?_
  refine e_iconst (v := nI 2) dL_law_518 (by decide) ?_
  refine e_iadd dL_law_519 ?_
  refine e_top (w := nI (i + 2)) (nI_add _ _) ?_
  refine e_sld hXs (n := i + 2) dL_law_520 rfl (by omega) (by omega) ?_
  refine m_callV (As := [_, _]) lc_L_70 dL_law_521 (ly_0 B _ _) rfl rfl (by simp [Value.category]) (Nat.le_of_ble_eq_true rfl) (Nat.le_of_ble_eq_true rfl) ⟨Nat.le_of_ble_eq_true rfl, Nat.le_of_ble_eq_true rfl⟩ ⟨by show _ ≤ 601024; omega, by show _ ≤ 7293034; omega⟩ (c_suggestion m (xs (i + 1)) (xs (i + 2)) hc) (fun v9 m1 hp9 => ?_)
  obtain ⟨⟨y, rfl, r1⟩, f1⟩ := hp9
  refine e_aload_n dL_law_524 rfl rfl ?_
  refine e_aload_n dL_law_525 rfl rfl ?_
  refine e_iload dL_law_526 rfl ?_
  refine e_iconst (v := nI 1) dL_law_528 (by decide) ?_
  refine e_iadd dL_law_529 ?_
  refine e_top (w := nI (i + 1)) (nI_add _ _) ?_
  refine e_sld hXs (n := i + 1) dL_law_530 rfl (by omega) (by omega) ?_
  refine e_aload_n dL_law_531 rfl rfl ?_
  refine e_iload dL_law_532 rfl ?_
  refine e_iconst (v := nI 2) dL_law_534 (by decide) ?_
  refine e_iadd dL_law_535 ?_
  refine e_top (w := nI (i + 2)) (nI_add _ _) ?_
  refine e_sld hXs (n := i + 2) dL_law_536 rfl (by omega) (by omega) ?_
  refine m_callV (As := [_, _]) lc_L_73 dL_law_537 (ly_226 B _ _) rfl rfl (by simp [Value.category]) (Nat.le_of_ble_eq_true rfl) (Nat.le_of_ble_eq_true rfl) ⟨Nat.le_of_ble_eq_true rfl, Nat.le_of_ble_eq_true rfl⟩ ⟨by show _ ≤ 601024; omega, by show _ ≤ 7293034; omega⟩ (r_suggestion m1 hc.1 (hm.frm f1.frm) (xs (i + 1)) (xs (i + 2))) (fun v9 m2 hp9 => ?_)
  obtain ⟨⟨y2, rfl, r2⟩, hm2, f2⟩ := hp9
  have e9 := R_rank_uniq r1 r2
  subst e9
  refine e_icmp_eq 816 dL_law_540 (by decide) (fun g => ?_) (fun g => ?_)
  · exact k _ _ _ _ _ _ _ _ (by omega) (by omega) ((hc.fr f1).fw f2) hm2
  · exact absurd rfl g
set_option maxRecDepth 100000 in
theorem lw_c13 (hN : N ≤ 2048) {i uc us sz : Nat} {o : Int64} {m : mm_M} {S : sp_S} {l5 l6 : Option Value} (hi : i + 4 ≤ N) (huc : uc ≤ 245 + i) (hus : us ≤ 13375 + 6 * i) (hc : cs m S) (hm : ms m S) (k : lwK l D kA B sa b N xs i) : lwG l D kA B sa b N xs 545 i uc us sz o m l5 l6 := by
  have hXs := lwXs (B := B) (sa := sa) (b := b) (xs := xs) hN
  refine e_aload_n dL_law_545 rfl rfl ?_
  refine e_aload_n dL_law_546 rfl rfl ?_
  refine e_iload dL_law_547 rfl ?_
  refine e_iconst (v := nI 1) dL_law_549 (by decide) ?_
  refine e_iadd dL_law_550 ?_
  refine e_top (w := nI (i + 1)) (nI_add _ _) ?_
  refine e_sld hXs (n := i + 1) dL_law_551 rfl (by omega) (by omega) ?_
  refine m_callV (As := [_]) lc_L_74 dL_law_552 (ly_0 B _ _) rfl rfl (by simp [Value.category]) (Nat.le_of_ble_eq_true rfl) (Nat.le_of_ble_eq_true rfl) ⟨Nat.le_of_ble_eq_true rfl, Nat.le_of_ble_eq_true rfl⟩ ⟨by show _ ≤ 601024; omega, by show _ ≤ 7293034; omega⟩ (c_endings m (xs (i + 1)) hc) (fun v9 m1 hp9 => ?_)
  obtain ⟨⟨y, rfl, r1⟩, f1⟩ := hp9
  refine e_aload_n dL_law_555 rfl rfl ?_
  refine e_aload_n dL_law_556 rfl rfl ?_
  refine e_iload dL_law_557 rfl ?_
  refine e_iconst (v := nI 1) dL_law_559 (by decide) ?_
  refine e_iadd dL_law_560 ?_
  refine e_top (w := nI (i + 1)) (nI_add _ _) ?_
  refine e_sld hXs (n := i + 1) dL_law_561 rfl (by omega) (by omega) ?_
  refine m_callV (As := [_]) lc_L_77 dL_law_562 (ly_226 B _ _) rfl rfl (by simp [Value.category]) (Nat.le_of_ble_eq_true rfl) (Nat.le_of_ble_eq_true rfl) ⟨Nat.le_of_ble_eq_true rfl, Nat.le_of_ble_eq_true rfl⟩ ⟨by show _ ≤ 601024; omega, by show _ ≤ 7293034; omega⟩ (r_endings m1 hc.1 (hm.frm f1.frm) (xs (i + 1))) (fun v9 m2 hp9 => ?_)
  obtain ⟨⟨y2, rfl, r2⟩, hm2, f2⟩ := hp9
  have e9 := R_many_uniq r1 r2
  subst e9
  refine e_icmp_eq 816 dL_law_565 (by decide) (fun g => ?_) (fun g => ?_)
  · exact k _ _ _ _ _ _ _ _ (by omega) (by omega) ((hc.fr f1).fw f2) hm2
  · exact absurd rfl g
set_option maxRecDepth 100000 in
theorem lw_c14 (hN : N ≤ 2048) {i uc us sz : Nat} {o : Int64} {m : mm_M} {S : sp_S} {l5 l6 : Option Value} (hi : i + 4 ≤ N) (huc : uc ≤ 245 + i) (hus : us ≤ 13375 + 6 * i) (hc : cs m S) (hm : ms m S) (k : lwK l D kA B sa b N xs i) : lwG l D kA B sa b N xs 570 i uc us sz o m l5 l6 := by
  have hXs := lwXs (B := B) (sa := sa) (b := b) (xs := xs) hN
  refine e_aload_n dL_law_570 rfl rfl ?_
  refine e_aload_n dL_law_571 rfl rfl ?_
  refine e_iload dL_law_572 rfl ?_
  refine e_iconst (v := nI 1) dL_law_574 (by decide) ?_
  refine e_iadd dL_law_575 ?_
  refine e_top (w := nI (i + 1)) (nI_add _ _) ?_
  refine e_sld hXs (n := i + 1) dL_law_576 rfl (by omega) (by omega) ?_
  refine e_aload_n dL_law_577 rfl rfl ?_
  refine e_iload dL_law_578 rfl ?_
  refine e_iconst (v := nI 2) dL_law_580 (by decide) ?_
  refine e_iadd dL_law_581 ?_
  refine e_top (w := nI (i + 2)) (nI_add _ _) ?_
  refine e_sld hXs (n := i + 2) dL_law_582 rfl (by omega) (by omega) ?_
  refine m_callV (As := [_, _]) lc_L_78 dL_law_583 (ly_0 B _ _) rfl rfl (by simp [Value.category]) (Nat.le_of_ble_eq_true rfl) (Nat.le_of_ble_eq_true rfl) ⟨Nat.le_of_ble_eq_true rfl, Nat.le_of_ble_eq_true rfl⟩ ⟨by show _ ≤ 601024; omega, by show _ ≤ 7293034; omega⟩ (c_ending m (xs (i + 1)) (xs (i + 2)) hc) (fun v9 m1 hp9 => ?_)
  obtain ⟨⟨y, rfl, r1⟩, f1⟩ := hp9
  refine e_aload_n dL_law_586 rfl rfl ?_
  refine e_aload_n dL_law_587 rfl rfl ?_
  refine e_iload dL_law_588 rfl ?_
  refine e_iconst (v := nI 1) dL_law_590 (by decide) ?_
  refine e_iadd dL_law_591 ?_
  refine e_top (w := nI (i + 1)) (nI_add _ _) ?_
  refine e_sld hXs (n := i + 1) dL_law_592 rfl (by omega) (by omega) ?_
  refine e_aload_n dL_law_593 rfl rfl ?_
  refine e_iload dL_law_594 rfl ?_
  refine e_iconst (v := nI 2) dL_law_596 (by decide) ?_
  refine e_iadd dL_law_597 ?_
  refine e_top (w := nI (i + 2)) (nI_add _ _) ?_
  refine e_sld hXs (n := i + 2) dL_law_598 rfl (by omega) (by omega) ?_
  refine m_callV (As := [_, _]) lc_L_81 dL_law_599 (ly_226 B _ _) rfl rfl (by simp [Value.category]) (Nat.le_of_ble_eq_true rfl) (Nat.le_of_ble_eq_true rfl) ⟨Nat.le_of_ble_eq_true rfl, Nat.le_of_ble_eq_true rfl⟩ ⟨by show _ ≤ 601024; omega, by show _ ≤ 7293034; omega⟩ (r_ending m1 hc.1 (hm.frm f1.frm) (xs (i + 1)) (xs (i + 2))) (fun v9 m2 hp9 => ?_)
  obtain ⟨⟨y2, rfl, r2⟩, hm2, f2⟩ := hp9
  have e9 := R_rank_uniq r1 r2
  subst e9
  refine e_icmp_eq 816 dL_law_602 (by decide) (fun g => ?_) (fun g => ?_)
  · exact k _ _ _ _ _ _ _ _ (by omega) (by omega) ((hc.fr f1).fw f2) hm2
  · exact absurd rfl g
set_option maxRecDepth 100000 in
theorem lw_c15 (hN : N ≤ 2048) {i uc us sz : Nat} {o : Int64} {m : mm_M} {S : sp_S} {l5 l6 : Option Value} (hi : i + 4 ≤ N) (huc : uc ≤ 245 + i) (hus : us ≤ 13375 + 6 * i) (hc : cs m S) (hm : ms m S) (k : lwK l D kA B sa b N xs i) : lwG l D kA B sa b N xs 607 i uc us sz o m l5 l6 := by
  have hXs := lwXs (B := B) (sa := sa) (b := b) (xs := xs) hN
  refine e_aload_n dL_law_607 rfl rfl ?_
  refine e_aload_n dL_law_608 rfl rfl ?_
  refine e_iload dL_law_609 rfl ?_
  refine e_iconst (v := nI 1) dL_law_611 (by decide) ?_
  refine e_iadd dL_law_612 ?_
  refine e_top (w := nI (i + 1)) (nI_add _ _) ?_
  refine e_sld hXs (n := i + 1) dL_law_613 rfl (by omega) (by omega) ?_
  refine m_callV (As := [_]) lc_L_82 dL_law_614 (ly_0 B _ _) rfl rfl (by simp [Value.category]) (Nat.le_of_ble_eq_true rfl) (Nat.le_of_ble_eq_true rfl) ⟨Nat.le_of_ble_eq_true rfl, Nat.le_of_ble_eq_true rfl⟩ ⟨by show _ ≤ 601024; omega, by show _ ≤ 7293034; omega⟩ (c_parting m (xs (i + 1)) hc) (fun v9 m1 hp9 => ?_)
  obtain ⟨⟨y, rfl, r1⟩, f1⟩ := hp9
  refine e_aload_n dL_law_617 rfl rfl ?_
  refine e_aload_n dL_law_618 rfl rfl ?_
  refine e_iload dL_law_619 rfl ?_
  refine e_iconst (v := nI 1) dL_law_621 (by decide) ?_
  refine e_iadd dL_law_622 ?_
  refine e_top (w := nI (i + 1)) (nI_add _ _) ?_
  refine e_sld hXs (n := i + 1) dL_law_623 rfl (by omega) (by omega) ?_
  refine m_callV (As := [_]) lc_L_85 dL_law_624 (ly_226 B _ _) rfl rfl (by simp [Value.category]) (Nat.le_of_ble_eq_true rfl) (Nat.le_of_ble_eq_true rfl) ⟨Nat.le_of_ble_eq_true rfl, Nat.le_of_ble_eq_true rfl⟩ ⟨by show _ ≤ 601024; omega, by show _ ≤ 7293034; omega⟩ (r_parting m1 hc.1 (hm.frm f1.frm) (xs (i + 1))) (fun v9 m2 hp9 => ?_)
  obtain ⟨⟨y2, rfl, r2⟩, hm2, f2⟩ := hp9
  have e9 := R_part_uniq r1 r2
  subst e9
  refine e_icmp_eq 816 dL_law_627 (by decide) (fun g => ?_) (fun g => ?_)
  · exact k _ _ _ _ _ _ _ _ (by omega) (by omega) ((hc.fr f1).fw f2) hm2
  · exact absurd rfl g
set_option maxRecDepth 100000 in
theorem lw_c16 (hN : N ≤ 2048) {i uc us sz : Nat} {o : Int64} {m : mm_M} {S : sp_S} {l5 l6 : Option Value} (hi : i + 4 ≤ N) (huc : uc ≤ 245 + i) (hus : us ≤ 13375 + 6 * i) (hc : cs m S) (hm : ms m S) (k : lwK l D kA B sa b N xs i) : lwG l D kA B sa b N xs 632 i uc us sz o m l5 l6 := by
  have hXs := lwXs (B := B) (sa := sa) (b := b) (xs := xs) hN
  refine e_aload_n dL_law_632 rfl rfl ?_
  refine m_callV (As := []) lc_L_86 dL_law_633 (ly_0 B _ _) rfl rfl (by simp [Value.category]) (Nat.le_of_ble_eq_true rfl) (Nat.le_of_ble_eq_true rfl) ⟨Nat.le_of_ble_eq_true rfl, Nat.le_of_ble_eq_true rfl⟩ ⟨by show _ ≤ 601024; omega, by show _ ≤ 7293034; omega⟩ (c_token m  hc) (fun v9 m1 hp9 => ?_)
  obtain ⟨y, S1, rfl, r1, hc1, f1⟩ := hp9
  refine e_aload_n dL_law_636 rfl rfl ?_
  refine m_callV (As := []) lc_L_89 dL_law_637 (ly_226 B _ _) rfl rfl (by simp [Value.category]) (Nat.le_of_ble_eq_true rfl) (Nat.le_of_ble_eq_true rfl) ⟨Nat.le_of_ble_eq_true rfl, Nat.le_of_ble_eq_true rfl⟩ ⟨by show _ ≤ 601024; omega, by show _ ≤ 7293034; omega⟩ (r_token m1 hc.1 (hm.frm f1)) (fun v9 m2 hp9 => ?_)
  obtain ⟨y2, S2, rfl, r2, hm2, f2⟩ := hp9
  obtain ⟨rfl, rfl⟩ := R_token_uniq r1 r2
  refine e_icmp_eq 816 dL_law_640 (by decide) (fun g => ?_) (fun g => ?_)
  · exact k _ _ _ _ _ _ _ _ (by omega) (by omega) (hc1.fw f2) hm2
  · exact absurd rfl g
set_option maxRecDepth 100000 in
theorem lw_c17 (hN : N ≤ 2048) {i uc us sz : Nat} {o : Int64} {m : mm_M} {S : sp_S} {l5 l6 : Option Value} (hi : i + 4 ≤ N) (huc : uc ≤ 245 + i) (hus : us ≤ 13375 + 6 * i) (hc : cs m S) (hm : ms m S) (k : lwK l D kA B sa b N xs i) : lwG l D kA B sa b N xs 645 i uc us sz o m l5 l6 := by
  have hXs := lwXs (B := B) (sa := sa) (b := b) (xs := xs) hN
  refine e_aload_n dL_law_645 rfl rfl ?_
  refine m_callV (As := []) lc_L_90 dL_law_646 (ly_0 B _ _) rfl rfl (by simp [Value.category]) (Nat.le_of_ble_eq_true rfl) (Nat.le_of_ble_eq_true rfl) ⟨Nat.le_of_ble_eq_true rfl, Nat.le_of_ble_eq_true rfl⟩ ⟨by show _ ≤ 601024; omega, by show _ ≤ 7293034; omega⟩ (c_line m  hc) (fun v9 m1 hp9 => ?_)
  obtain ⟨rfl, hc1, f1⟩ := hp9
  refine e_aload_n dL_law_649 rfl rfl ?_
  refine m_callV (As := []) lc_L_93 dL_law_650 (ly_226 B _ _) rfl rfl (by simp [Value.category]) (Nat.le_of_ble_eq_true rfl) (Nat.le_of_ble_eq_true rfl) ⟨Nat.le_of_ble_eq_true rfl, Nat.le_of_ble_eq_true rfl⟩ ⟨by show _ ≤ 601024; omega, by show _ ≤ 7293034; omega⟩ (r_line m1 (hm.frm f1)) (fun v9 m2 hp9 => ?_)
  obtain ⟨rfl, hm2, f2⟩ := hp9
  refine e_icmp_eq 816 dL_law_653 (by decide) (fun g => ?_) (fun g => ?_)
  · exact k _ _ _ _ _ _ _ _ (by omega) (by omega) (hc1.fw f2) hm2
  · exact absurd rfl g
set_option maxRecDepth 100000 in
theorem lw_c18 (hN : N ≤ 2048) {i uc us sz : Nat} {o : Int64} {m : mm_M} {S : sp_S} {l5 l6 : Option Value} (hi : i + 4 ≤ N) (huc : uc ≤ 245 + i) (hus : us ≤ 13375 + 6 * i) (hc : cs m S) (hm : ms m S) (k : lwK l D kA B sa b N xs i) : lwG l D kA B sa b N xs 658 i uc us sz o m l5 l6 := by
  have hXs := lwXs (B := B) (sa := sa) (b := b) (xs := xs) hN
  refine e_aload_n dL_law_658 rfl rfl ?_
  refine e_aload_n dL_law_659 rfl rfl ?_
  refine e_iload dL_law_660 rfl ?_
  refine e_iconst (v := nI 1) dL_law_662 (by decide) ?_
  refine e_iadd dL_law_663 ?_
  refine e_top (w := nI (i + 1)) (nI_add _ _) ?_
  refine e_sld hXs (n := i + 1) dL_law_664 rfl (by omega) (by omega) ?_
  refine e_aload_n dL_law_665 rfl rfl ?_
  refine e_iload dL_law_666 rfl ?_
  refine e_iconst (v := nI 2) dL_law_668 (by decide) ?_
  refine e_iadd dL_law_669 ?_
  refine e_top (w := nI (i + 2)) (nI_add _ _) ?_
  refine e_sld hXs (n := i + 2) dL_law_670 rfl (by omega) (by omega) ?_
  refine e_aload_n dL_law_671 rfl rfl ?_
  refine e_iload dL_law_672 rfl ?_
  refine e_iconst (v := nI 3) dL_law_674 (by decide) ?_
  refine e_iadd dL_law_675 ?_
  refine e_top (w := nI (i + 3)) (nI_add _ _) ?_
  refine e_sld hXs (n := i + 3) dL_law_676 rfl (by omega) (by omega) ?_
  refine e_if_eq 684 dL_law_677 (by decide) (fun g => ?_) (fun g => ?_)
  · refine e_iconst (v := nI 0) dL_law_684 (by decide) ?_
    have hp1 := c_pair (l := l) (D := D) (kA := kA) (B := B) (sz := sz) (o := o) m (xs (i + 1)) (xs (i + 2)) false hc
    refine m_callV (As := [_, _, _]) lc_L_94 dL_law_685 (ly_0 B _ _) rfl rfl (by simp [Value.category]) (Nat.le_of_ble_eq_true rfl) (Nat.le_of_ble_eq_true rfl) ⟨Nat.le_of_ble_eq_true rfl, Nat.le_of_ble_eq_true rfl⟩ ⟨by show _ ≤ 601024; omega, by show _ ≤ 7293034; omega⟩ (hp1) (fun v9 m1 hp9 => ?_)
    obtain ⟨y, S1, rfl, r1, hc1, f1⟩ := hp9
    refine e_aload_n dL_law_688 rfl rfl ?_
    refine e_aload_n dL_law_689 rfl rfl ?_
    refine e_iload dL_law_690 rfl ?_
    refine e_iconst (v := nI 1) dL_law_692 (by decide) ?_
    refine e_iadd dL_law_693 ?_
    refine e_top (w := nI (i + 1)) (nI_add _ _) ?_
    refine e_sld hXs (n := i + 1) dL_law_694 rfl (by omega) (by omega) ?_
    refine e_aload_n dL_law_695 rfl rfl ?_
    refine e_iload dL_law_696 rfl ?_
    refine e_iconst (v := nI 2) dL_law_698 (by decide) ?_
    refine e_iadd dL_law_699 ?_
    refine e_top (w := nI (i + 2)) (nI_add _ _) ?_
    refine e_sld hXs (n := i + 2) dL_law_700 rfl (by omega) (by omega) ?_
    refine e_aload_n dL_law_701 rfl rfl ?_
    refine e_iload dL_law_702 rfl ?_
    refine e_iconst (v := nI 3) dL_law_704 (by decide) ?_
    refine e_iadd dL_law_705 ?_
    refine e_top (w := nI (i + 3)) (nI_add _ _) ?_
    refine e_sld hXs (n := i + 3) dL_law_706 rfl (by omega) (by omega) ?_
    refine e_if_eq 714 dL_law_707 (by decide) (fun g2 => ?_) (fun g2 => ?_)
    · refine e_iconst (v := nI 0) dL_law_714 (by decide) ?_
      refine m_callV (As := [_, _, _]) lc_L_98 dL_law_715 (ly_226 B _ _) rfl rfl (by simp [Value.category]) (Nat.le_of_ble_eq_true rfl) (Nat.le_of_ble_eq_true rfl) ⟨Nat.le_of_ble_eq_true rfl, Nat.le_of_ble_eq_true rfl⟩ ⟨by show _ ≤ 601024; omega, by show _ ≤ 7293034; omega⟩ (r_pair m1 hc.1 (hm.frm f1) (xs (i + 1)) (xs (i + 2)) false) (fun v9 m2 hp9 => ?_)
      obtain ⟨y2, S2, rfl, r2, hm2, f2⟩ := hp9
      obtain ⟨rfl, rfl⟩ := R_pair_uniq hc.1 r1 r2
      refine e_icmp_eq 816 dL_law_718 (by decide) (fun g3 => ?_) (fun g3 => ?_)
      · exact k _ _ _ _ _ _ _ _ (by omega) (by omega) (hc1.fw f2) hm2
      · exact absurd rfl g3
    · exact absurd g g2
  · refine e_iconst (v := nI 1) dL_law_680 (by decide) ?_
    refine e_goto 685 dL_law_681 (by decide) ?_
    have hp1 := c_pair (l := l) (D := D) (kA := kA) (B := B) (sz := sz) (o := o) m (xs (i + 1)) (xs (i + 2)) true hc
    refine m_callV (As := [_, _, _]) lc_L_94 dL_law_685 (ly_0 B _ _) rfl rfl (by simp [Value.category]) (Nat.le_of_ble_eq_true rfl) (Nat.le_of_ble_eq_true rfl) ⟨Nat.le_of_ble_eq_true rfl, Nat.le_of_ble_eq_true rfl⟩ ⟨by show _ ≤ 601024; omega, by show _ ≤ 7293034; omega⟩ (hp1) (fun v9 m1 hp9 => ?_)
    obtain ⟨y, S1, rfl, r1, hc1, f1⟩ := hp9
    refine e_aload_n dL_law_688 rfl rfl ?_
    refine e_aload_n dL_law_689 rfl rfl ?_
    refine e_iload dL_law_690 rfl ?_
    refine e_iconst (v := nI 1) dL_law_692 (by decide) ?_
    refine e_iadd dL_law_693 ?_
    refine e_top (w := nI (i + 1)) (nI_add _ _) ?_
    refine e_sld hXs (n := i + 1) dL_law_694 rfl (by omega) (by omega) ?_
    refine e_aload_n dL_law_695 rfl rfl ?_
    refine e_iload dL_law_696 rfl ?_
    refine e_iconst (v := nI 2) dL_law_698 (by decide) ?_
    refine e_iadd dL_law_699 ?_
    refine e_top (w := nI (i + 2)) (nI_add _ _) ?_
    refine e_sld hXs (n := i + 2) dL_law_700 rfl (by omega) (by omega) ?_
    refine e_aload_n dL_law_701 rfl rfl ?_
    refine e_iload dL_law_702 rfl ?_
    refine e_iconst (v := nI 3) dL_law_704 (by decide) ?_
    refine e_iadd dL_law_705 ?_
    refine e_top (w := nI (i + 3)) (nI_add _ _) ?_
    refine e_sld hXs (n := i + 3) dL_law_706 rfl (by omega) (by omega) ?_
    refine e_if_eq 714 dL_law_707 (by decide) (fun g2 => ?_) (fun g2 => ?_)
    · exact absurd g2 g
    · refine e_iconst (v := nI 1) dL_law_710 (by decide) ?_
      refine e_goto 715 dL_law_711 (by decide) ?_
      refine m_callV (As := [_, _, _]) lc_L_98 dL_law_715 (ly_226 B _ _) rfl rfl (by simp [Value.category]) (Nat.le_of_ble_eq_true rfl) (Nat.le_of_ble_eq_true rfl) ⟨Nat.le_of_ble_eq_true rfl, Nat.le_of_ble_eq_true rfl⟩ ⟨by show _ ≤ 601024; omega, by show _ ≤ 7293034; omega⟩ (r_pair m1 hc.1 (hm.frm f1) (xs (i + 1)) (xs (i + 2)) true) (fun v9 m2 hp9 => ?_)
      obtain ⟨y2, S2, rfl, r2, hm2, f2⟩ := hp9
      obtain ⟨rfl, rfl⟩ := R_pair_uniq hc.1 r1 r2
      refine e_icmp_eq 816 dL_law_718 (by decide) (fun g3 => ?_) (fun g3 => ?_)
      · exact k _ _ _ _ _ _ _ _ (by omega) (by omega) (hc1.fw f2) hm2
      · exact absurd rfl g3
set_option maxRecDepth 100000 in
theorem lw_c19 (hN : N ≤ 2048) {i uc us sz : Nat} {o : Int64} {m : mm_M} {S : sp_S} {l5 l6 : Option Value} (hi : i + 4 ≤ N) (huc : uc ≤ 245 + i) (hus : us ≤ 13375 + 6 * i) (hc : cs m S) (hm : ms m S) (k : lwK l D kA B sa b N xs i) : lwG l D kA B sa b N xs 723 i uc us sz o m l5 l6 := by
  have hXs := lwXs (B := B) (sa := sa) (b := b) (xs := xs) hN
  refine e_aload_n dL_law_723 rfl rfl ?_
  refine e_aload_n dL_law_724 rfl rfl ?_
  refine e_iload dL_law_725 rfl ?_
  refine e_iconst (v := nI 1) dL_law_727 (by decide) ?_
  refine e_iadd dL_law_728 ?_
  refine e_top (w := nI (i + 1)) (nI_add _ _) ?_
  refine e_sld hXs (n := i + 1) dL_law_729 rfl (by omega) (by omega) ?_
  refine e_aload_n dL_law_730 rfl rfl ?_
  refine e_iload dL_law_731 rfl ?_
  refine e_iconst (v := nI 2) dL_law_733 (by decide) ?_
  refine e_iadd dL_law_734 ?_
  refine e_top (w := nI (i + 2)) (nI_add _ _) ?_
  refine e_sld hXs (n := i + 2) dL_law_735 rfl (by omega) (by omega) ?_
  refine m_callV (As := [_, _]) lc_L_99 dL_law_736 (ly_0 B _ _) rfl rfl (by simp [Value.category]) (Nat.le_of_ble_eq_true rfl) (Nat.le_of_ble_eq_true rfl) ⟨Nat.le_of_ble_eq_true rfl, Nat.le_of_ble_eq_true rfl⟩ ⟨by show _ ≤ 601024; omega, by show _ ≤ 7293034; omega⟩ (c_chosen m (xs (i + 1)) (xs (i + 2)) hc) (fun v9 m1 hp9 => ?_)
  obtain ⟨⟨y, rfl, r1⟩, f1⟩ := hp9
  refine e_aload_n dL_law_739 rfl rfl ?_
  refine e_aload_n dL_law_740 rfl rfl ?_
  refine e_iload dL_law_741 rfl ?_
  refine e_iconst (v := nI 1) dL_law_743 (by decide) ?_
  refine e_iadd dL_law_744 ?_
  refine e_top (w := nI (i + 1)) (nI_add _ _) ?_
  refine e_sld hXs (n := i + 1) dL_law_745 rfl (by omega) (by omega) ?_
  refine e_aload_n dL_law_746 rfl rfl ?_
  refine e_iload dL_law_747 rfl ?_
  refine e_iconst (v := nI 2) dL_law_749 (by decide) ?_
  refine e_iadd dL_law_750 ?_
  refine e_top (w := nI (i + 2)) (nI_add _ _) ?_
  refine e_sld hXs (n := i + 2) dL_law_751 rfl (by omega) (by omega) ?_
  refine m_callV (As := [_, _]) lc_L_102 dL_law_752 (ly_226 B _ _) rfl rfl (by simp [Value.category]) (Nat.le_of_ble_eq_true rfl) (Nat.le_of_ble_eq_true rfl) ⟨Nat.le_of_ble_eq_true rfl, Nat.le_of_ble_eq_true rfl⟩ ⟨by show _ ≤ 601024; omega, by show _ ≤ 7293034; omega⟩ (r_chosen m1 hc.1 (hm.frm f1.frm) (xs (i + 1)) (xs (i + 2))) (fun v9 m2 hp9 => ?_)
  obtain ⟨⟨y2, rfl, r2⟩, hm2, f2⟩ := hp9
  have e9 := R_ch_uniq hc.1 r1 r2
  subst e9
  refine e_icmp_eq 816 dL_law_755 (by decide) (fun g => ?_) (fun g => ?_)
  · exact k _ _ _ _ _ _ _ _ (by omega) (by omega) ((hc.fr f1).fw f2) hm2
  · exact absurd rfl g
set_option maxRecDepth 100000 in
theorem lw_c20 (hl9 : l.stackTraces = false) (hN : N ≤ 2048) {i uc us sz : Nat} {o : Int64} {m : mm_M} {S : sp_S} {l5 l6 : Option Value} (hi : i + 4 ≤ N) (huc : uc ≤ 245 + i) (hus : us ≤ 13375 + 6 * i) (hc : cs m S) (hm : ms m S) (k : lwK l D kA B sa b N xs i) : lwG l D kA B sa b N xs 760 i uc us sz o m l5 l6 := by
  have hXs := lwXs (B := B) (sa := sa) (b := b) (xs := xs) hN
  refine e_aload_n dL_law_760 rfl rfl ?_
  refine e_aload_n dL_law_761 rfl rfl ?_
  refine e_iload dL_law_762 rfl ?_
  refine e_iconst (v := nI 1) dL_law_764 (by decide) ?_
  refine e_iadd dL_law_765 ?_
  refine e_top (w := nI (i + 1)) (nI_add _ _) ?_
  refine e_sld hXs (n := i + 1) dL_law_766 rfl (by omega) (by omega) ?_
  refine e_aload_n dL_law_767 rfl rfl ?_
  refine e_callLS (sa := sa) (mc := 1) (ms := 6) (f := 9) (lo := 154) (n := 3) (As := [_, _, _]) (ec_in 534 rfl rfl) (ec_in 0 rfl rfl) (ec_in 536 rfl rfl) (ec_in 535 rfl rfl) (by decide +kernel) dL_law_768 rfl rfl (by simp [Value.category]) (Nat.le_of_ble_eq_true rfl) (Nat.le_of_ble_eq_true rfl) ⟨Nat.le_of_ble_eq_true rfl, Nat.le_of_ble_eq_true rfl⟩ ⟨by show _ ≤ 601024; omega, by show _ ≤ 7293034; omega⟩ (fun s h => h.1) (ls_W hl9 sa m (xs (i + 1)) hc) (fun v h1 hq => ?_)
  rcases hq with ⟨m1, y, rfl, rfl, r1, f1⟩ | ⟨m1, sz', rfl, rfl, h2, r1, f1⟩
  · have hc1 := hc.fr f1
    refine e_istore dL_law_771 (by decide) rfl ?_
    refine e_aload_n dL_law_773 rfl rfl ?_
    refine e_aload_n dL_law_774 rfl rfl ?_
    refine e_iload dL_law_775 rfl ?_
    refine e_iconst (v := nI 1) dL_law_777 (by decide) ?_
    refine e_iadd dL_law_778 ?_
    refine e_top (w := nI (i + 1)) (nI_add _ _) ?_
    refine e_sld hXs (n := i + 1) dL_law_779 rfl (by omega) (by omega) ?_
    refine m_callV (As := [_]) lc_L_108 dL_law_780 (ly_226 B _ _) rfl rfl (by simp [Value.category]) (Nat.le_of_ble_eq_true rfl) (Nat.le_of_ble_eq_true rfl) ⟨Nat.le_of_ble_eq_true rfl, Nat.le_of_ble_eq_true rfl⟩ ⟨by show _ ≤ 601024; omega, by show _ ≤ 7293034; omega⟩ (r_share m1 hc1.1 (hm.frm f1.frm) (xs (i + 1))) (fun v9 m2 hp9 => ?_)
    obtain ⟨⟨y2, t2, rfl, r2, th⟩, hm2, f2⟩ := hp9
    obtain ⟨e1, e2⟩ := R_sh_uniq hc.1 r1 r2
    subst e1 e2
    refine e_istore dL_law_783 (by decide) rfl ?_
    refine e_aload_n dL_law_785 rfl rfl ?_
    refine m_callV (As := []) lc_L_109 dL_law_786 (ly_226 B _ _) rfl rfl (by simp [Value.category]) (Nat.le_of_ble_eq_true rfl) (Nat.le_of_ble_eq_true rfl) ⟨Nat.le_of_ble_eq_true rfl, Nat.le_of_ble_eq_true rfl⟩ ⟨by show _ ≤ 601024; omega, by show _ ≤ 7293034; omega⟩ (r_thrown m2) (fun v9 m3 hp9 => ?_)
    obtain ⟨rfl, rfl⟩ := hp9
    refine e_top (w := nI 0) th ?_
    refine e_iload dL_law_789 rfl ?_
    refine e_icmp_eq 796 dL_law_791 (by decide) (fun g1 => ?_) (fun g1 => ?_)
    · refine e_iload dL_law_796 rfl ?_
      refine e_if_ne 813 dL_law_798 (by decide) (fun g2 => ?_) (fun g2 => ?_)
      · exact absurd rfl g2
      · refine e_aload_n dL_law_801 rfl rfl ?_
        refine e_iconst (v := nI 0) dL_law_802 (by decide) ?_
        refine e_lald (v := y.toInt64) dL_law_803 (lay_at.trans (ly_244 B _ _)) (vp_in_nI (by decide) (by decide)) rfl ?_
        refine e_iload dL_law_804 rfl ?_
        refine e_i2l dL_law_806 rfl ?_
        refine e_lcmp dL_law_807 ?_
        refine e_if_eq 813 dL_law_808 (by decide) (fun g3 => ?_) (fun g3 => ?_)
        · refine e_goto 816 dL_law_813 (by decide) ?_
          exact k _ _ _ _ _ _ _ _ (by omega) (by omega) (hc1.fw f2) hm2
        · exact absurd (by simp [lg_cmp]) g3
    · exact absurd rfl g1
  · have hc1 := hc.fr f1
    refine e_istore dL_law_771 (by decide) rfl ?_
    refine e_aload_n dL_law_773 rfl rfl ?_
    refine e_aload_n dL_law_774 rfl rfl ?_
    refine e_iload dL_law_775 rfl ?_
    refine e_iconst (v := nI 1) dL_law_777 (by decide) ?_
    refine e_iadd dL_law_778 ?_
    refine e_top (w := nI (i + 1)) (nI_add _ _) ?_
    refine e_sld hXs (n := i + 1) dL_law_779 rfl (by omega) (by omega) ?_
    refine m_callV (As := [_]) lc_L_108 dL_law_780 (ly_226 B _ _) rfl rfl (by simp [Value.category]) (Nat.le_of_ble_eq_true rfl) (Nat.le_of_ble_eq_true rfl) ⟨Nat.le_of_ble_eq_true rfl, Nat.le_of_ble_eq_true rfl⟩ ⟨by show _ ≤ 601024; omega, by show _ ≤ 7293034; omega⟩ (r_share m1 hc1.1 (hm.frm f1.frm) (xs (i + 1))) (fun v9 m2 hp9 => ?_)
    obtain ⟨⟨y2, t2, rfl, r2, th⟩, hm2, f2⟩ := hp9
    obtain ⟨e1, e2⟩ := R_sh_uniq hc.1 r1 r2
    subst e1
    refine e_istore dL_law_783 (by decide) rfl ?_
    refine e_aload_n dL_law_785 rfl rfl ?_
    refine m_callV (As := []) lc_L_109 dL_law_786 (ly_226 B _ _) rfl rfl (by simp [Value.category]) (Nat.le_of_ble_eq_true rfl) (Nat.le_of_ble_eq_true rfl) ⟨Nat.le_of_ble_eq_true rfl, Nat.le_of_ble_eq_true rfl⟩ ⟨by show _ ≤ 601024; omega, by show _ ≤ 7293034; omega⟩ (r_thrown m2) (fun v9 m3 hp9 => ?_)
    obtain ⟨rfl, rfl⟩ := hp9
    refine e_top (w := nI 1) th ?_
    refine e_iload dL_law_789 rfl ?_
    refine e_icmp_eq 796 dL_law_791 (by decide) (fun g1 => ?_) (fun g1 => ?_)
    · refine e_iload dL_law_796 rfl ?_
      refine e_if_ne 813 dL_law_798 (by decide) (fun g2 => ?_) (fun g2 => ?_)
      · refine e_goto 816 dL_law_813 (by decide) ?_
        exact k _ _ _ _ _ _ _ _ (by omega) (by omega) (hc1.fw f2) hm2
      · exact absurd g2 (by decide)
    · exact absurd rfl g1
set_option maxRecDepth 100000 in
theorem lw_case (hl9 : l.stackTraces = false) (hN : N ≤ 2048) {i uc us sz : Nat} {o : Int64} {m : mm_M} {S : sp_S} {l5 l6 : Option Value} (hi : i + 4 ≤ N) (huc : uc ≤ 245 + i) (hus : us ≤ 13375 + 6 * i) (hc : cs m S) (hm : ms m S) (k : lwK l D kA B sa b N xs i) : lwG l D kA B sa b N xs 32 i uc us sz o m l5 l6 := by
  have hXs := lwXs (B := B) (sa := sa) (b := b) (xs := xs) hN
  refine e_aload_n dL_law_32 rfl rfl ?_
  refine e_iload dL_law_33 rfl ?_
  refine e_sld hXs (n := i) dL_law_35 rfl (by omega) (by omega) ?_
  refine e_bipush (v := nI 31) dL_law_36 (by decide) ?_
  refine e_iand dL_law_38 ?_
  obtain ⟨j, hj, ej⟩ := pk_andE (xs i) (m := nI 31) 5 (by decide)
  refine e_top (w := nI j) ej ?_
  by_cases j0 : j = 0
  · subst j0
    refine e_tabIn 136 dL_law_39 (by decide) (by decide) (off := 97) (by decide) (by decide) ?_
    exact lw_c0 hN hi huc hus hc hm k
  by_cases j1 : j = 1
  · subst j1
    refine e_tabIn 161 dL_law_39 (by decide) (by decide) (off := 122) (by decide) (by decide) ?_
    exact lw_c1 hN hi huc hus hc hm k
  by_cases j2 : j = 2
  · subst j2
    refine e_tabIn 174 dL_law_39 (by decide) (by decide) (off := 135) (by decide) (by decide) ?_
    exact lw_c2 hN hi huc hus hc hm k
  by_cases j3 : j = 3
  · subst j3
    refine e_tabIn 199 dL_law_39 (by decide) (by decide) (off := 160) (by decide) (by decide) ?_
    exact lw_c3 hN hi huc hus hc hm k
  by_cases j4 : j = 4
  · subst j4
    refine e_tabIn 236 dL_law_39 (by decide) (by decide) (off := 197) (by decide) (by decide) ?_
    exact lw_c4 hN hi huc hus hc hm k
  by_cases j5 : j = 5
  · subst j5
    refine e_tabIn 273 dL_law_39 (by decide) (by decide) (off := 234) (by decide) (by decide) ?_
    exact lw_c5 hN hi huc hus hc hm k
  by_cases j6 : j = 6
  · subst j6
    refine e_tabIn 310 dL_law_39 (by decide) (by decide) (off := 271) (by decide) (by decide) ?_
    exact lw_c6 hN hi huc hus hc hm k
  by_cases j7 : j = 7
  · subst j7
    refine e_tabIn 359 dL_law_39 (by decide) (by decide) (off := 320) (by decide) (by decide) ?_
    exact lw_c7 hN hi huc hus hc hm k
  by_cases j8 : j = 8
  · subst j8
    refine e_tabIn 384 dL_law_39 (by decide) (by decide) (off := 345) (by decide) (by decide) ?_
    exact lw_c8 hN hi huc hus hc hm k
  by_cases j9 : j = 9
  · subst j9
    refine e_tabIn 409 dL_law_39 (by decide) (by decide) (off := 370) (by decide) (by decide) ?_
    exact lw_c9 hN hi huc hus hc hm k
  by_cases j10 : j = 10
  · subst j10
    refine e_tabIn 446 dL_law_39 (by decide) (by decide) (off := 407) (by decide) (by decide) ?_
    exact lw_c10 hN hi huc hus hc hm k
  by_cases j11 : j = 11
  · subst j11
    refine e_tabIn 483 dL_law_39 (by decide) (by decide) (off := 444) (by decide) (by decide) ?_
    exact lw_c11 hN hi huc hus hc hm k
  by_cases j12 : j = 12
  · subst j12
    refine e_tabIn 508 dL_law_39 (by decide) (by decide) (off := 469) (by decide) (by decide) ?_
    exact lw_c12 hN hi huc hus hc hm k
  by_cases j13 : j = 13
  · subst j13
    refine e_tabIn 545 dL_law_39 (by decide) (by decide) (off := 506) (by decide) (by decide) ?_
    exact lw_c13 hN hi huc hus hc hm k
  by_cases j14 : j = 14
  · subst j14
    refine e_tabIn 570 dL_law_39 (by decide) (by decide) (off := 531) (by decide) (by decide) ?_
    exact lw_c14 hN hi huc hus hc hm k
  by_cases j15 : j = 15
  · subst j15
    refine e_tabIn 607 dL_law_39 (by decide) (by decide) (off := 568) (by decide) (by decide) ?_
    exact lw_c15 hN hi huc hus hc hm k
  by_cases j16 : j = 16
  · subst j16
    refine e_tabIn 632 dL_law_39 (by decide) (by decide) (off := 593) (by decide) (by decide) ?_
    exact lw_c16 hN hi huc hus hc hm k
  by_cases j17 : j = 17
  · subst j17
    refine e_tabIn 645 dL_law_39 (by decide) (by decide) (off := 606) (by decide) (by decide) ?_
    exact lw_c17 hN hi huc hus hc hm k
  by_cases j18 : j = 18
  · subst j18
    refine e_tabIn 658 dL_law_39 (by decide) (by decide) (off := 619) (by decide) (by decide) ?_
    exact lw_c18 hN hi huc hus hc hm k
  by_cases j19 : j = 19
  · subst j19
    refine e_tabIn 723 dL_law_39 (by decide) (by decide) (off := 684) (by decide) (by decide) ?_
    exact lw_c19 hN hi huc hus hc hm k
  by_cases j20 : j = 20
  · subst j20
    refine e_tabIn 760 dL_law_39 (by decide) (by decide) (off := 721) (by decide) (by decide) ?_
    exact lw_c20 hl9 hN hi huc hus hc hm k
  refine e_tabOut 816 dL_law_39 (Or.inr ?_) (by decide) ?_
  · have : ∀ q : Fin 32, 20 < q.1 → (20 : Int) < (nI q.1).toInt := by decide
    exact this ⟨j, hj⟩ (by show 20 < j; omega)
  · exact k _ _ _ _ _ _ _ _ (by omega) (by omega) hc hm
set_option maxRecDepth 100000 in
/-- THE LAW'S LOOP: at its head, with i ints read, the class and the reference hold the same -/
theorem lw_loop (hl9 : l.stackTraces = false) (hN : N ≤ 2048) : ∀ (n i uc us sz : Nat) (o : Int64) (m : mm_M) (S : sp_S) (l5 l6 : Option Value), i ≤ N → N + 1 ≤ i + n → uc ≤ 245 + i → us ≤ 13375 + 6 * i → cs m S → ms m S → lwG l D kA B sa b N xs 23 i uc us sz o m l5 l6 := by
  have hXs := lwXs (B := B) (sa := sa) (b := b) (xs := xs) hN
  intro n
  induction n with
  | zero =>
    intro i uc us sz o m S l5 l6 h1 h2
    exact absurd h2 (by omega)
  | succ n ih =>
    intro i uc us sz o m S l5 l6 h1 h2 huc hus hc hm
    refine e_iload dL_law_23 rfl ?_
    refine e_aload_n dL_law_25 rfl rfl ?_
    refine e_slen hXs dL_law_26 ?_
    refine e_iconst (v := nI 4) dL_law_27 (by decide) ?_
    refine e_isub dL_law_28 ?_
    refine e_icmp_gt 822 dL_law_29 (by decide) (fun g => ?_) (fun g => ?_)
    · refine e_iconst (v := 1) dL_law_822 (by decide) ?_
      exact e_lawend (by omega) (by omega) (fun s h => h.2.2.2) dL_law_823
    · have h4 := le4 (by omega) hN g
      refine lw_case hl9 hN h4 huc hus hc hm ?_
      intro uc us sz o m S l5 l6 huc hus hc hm
      refine e_iinc (v := nI (i + 4)) dL_law_816 rfl (nI_add _ _) (by decide) rfl ?_
      refine e_goto 23 dL_law_819 (by decide) ?_
      exact ih (i + 4) uc us sz o m S l5 l6 h4 (by omega) (by omega) (by omega) hc hm
end LAW