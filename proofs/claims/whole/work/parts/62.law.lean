/-! the law: its loop, over any relation that every pair of calls keeps -/
abbrev cw_IR : Type := (Nat → Nat → Int32) → (Nat → Nat → Int32) → (Nat → Nat → Int64) → Bool × Bool → Prop
def cw_OK (g : cw_G) (Iv : cw_IR) (Yc Ym : cw_M) (As : List Value) : Prop := ∀ (I A : Nat → Nat → Int32) (J : Nat → Nat → Int64) (t : Bool × Bool), Iv I A J t → ∃ (r : Int32) (I1 A1 : Nat → Nat → Int32) (J1 : Nat → Nat → Int64) (t1 : Bool × Bool) (I2 A2 : Nat → Nat → Int32) (J2 : Nat → Nat → Int64) (t2 : Bool × Bool), Cd g Yc (.ref (cw_z g + 0) :: As) (hp g I A J t) (some (.int r)) (hp g I1 A1 J1 t1) ∧ Cd g Ym (.ref (cw_z g + 68) :: As) (hp g I1 A1 J1 t1) (some (.int r)) (hp g I2 A2 J2 t2) ∧ Iv I2 A2 J2 t2
def cw_OK_feed (g : cw_G) (Iv : cw_IR) : Prop := ∀ (x1 x2 x3 x4 x5 : Int32), cw_OK g Iv mX11_feed mX12_feed [.int x1, .int x2, .int x3, .int x4, .int x5]
def cw_OK_back (g : cw_G) (Iv : cw_IR) : Prop := ∀ (x1 : Int32), cw_OK g Iv mX11_back mX12_back [.int x1]
def cw_OK_read (g : cw_G) (Iv : cw_IR) : Prop := cw_OK g Iv mX11_read mX12_read []
def cw_OK_place (g : cw_G) (Iv : cw_IR) : Prop := cw_OK g Iv mX11_place mX12_place []
def cw_OK_ground (g : cw_G) (Iv : cw_IR) : Prop := ∀ (x1 x2 x3 : Int32), cw_OK g Iv mX11_ground mX12_ground [.int x1, .int x2, .int x3]
def cw_OK_mast (g : cw_G) (Iv : cw_IR) : Prop := ∀ (x1 x2 : Int32), cw_OK g Iv mX11_mast mX12_mast [.int x1, .int x2]
def cw_OK_programme (g : cw_G) (Iv : cw_IR) : Prop := ∀ (x1 x2 x3 : Int32), cw_OK g Iv mX11_programme mX12_programme [.int x1, .int x2, .int x3]
def cw_OK_sheet (g : cw_G) (Iv : cw_IR) : Prop := ∀ (x1 x2 : Int32), cw_OK g Iv mX11_sheet mX12_sheet [.int x1, .int x2]
def cw_OK_cell (g : cw_G) (Iv : cw_IR) : Prop := ∀ (x1 x2 x3 : Int32), cw_OK g Iv mX11_cell mX12_cell [.int x1, .int x2, .int x3]
def cw_OK_clock (g : cw_G) (Iv : cw_IR) : Prop := ∀ (x1 : Int32), cw_OK g Iv mX11_clock mX12_clock [.int x1]
def cw_OK_report (g : cw_G) (Iv : cw_IR) : Prop := ∀ (x1 x2 x3 x4 x5 : Int32), cw_OK g Iv mX11_report mX12_report [.int x1, .int x2, .int x3, .int x4, .int x5]
def cw_OK_notice (g : cw_G) (Iv : cw_IR) : Prop := ∀ (x1 x2 x3 x4 x5 : Int32), cw_OK g Iv mX11_notice mX12_notice [.int x1, .int x2, .int x3, .int x4, .int x5]
def cw_OK_way (g : cw_G) (Iv : cw_IR) : Prop := ∀ (x1 x2 x3 : Int32), cw_OK g Iv mX11_way mX12_way [.int x1, .int x2, .int x3]
def cw_OK_sun (g : cw_G) (Iv : cw_IR) : Prop := ∀ (x1 x2 x3 x4 : Int32), cw_OK g Iv mX11_sun mX12_sun [.int x1, .int x2, .int x3, .int x4]
def cw_OK_correction (g : cw_G) (Iv : cw_IR) : Prop := ∀ (x1 x2 x3 x4 : Int32), cw_OK g Iv mX11_correction mX12_correction [.int x1, .int x2, .int x3, .int x4]
def cw_OK_strength (g : cw_G) (Iv : cw_IR) : Prop := ∀ (x1 x2 x3 x4 x5 x6 : Int32), cw_OK g Iv mX11_strength mX12_strength [.int x1, .int x2, .int x3, .int x4, .int x5, .int x6]
def cw_OK_yields (g : cw_G) (Iv : cw_IR) : Prop := ∀ (x1 x2 x3 x4 x5 x6 : Int32), cw_OK g Iv mX11_yields mX12_yields [.int x1, .int x2, .int x3, .int x4, .int x5, .int x6]
def cw_OK_rule (g : cw_G) (Iv : cw_IR) : Prop := ∀ (x1 x2 x3 x4 x5 x6 : Int32), cw_OK g Iv mX11_rule mX12_rule [.int x1, .int x2, .int x3, .int x4, .int x5, .int x6]
def cw_OK_schedule (g : cw_G) (Iv : cw_IR) : Prop := ∀ (x1 x2 : Int32), cw_OK g Iv mX11_schedule mX12_schedule [.int x1, .int x2]
def cw_OK_slot (g : cw_G) (Iv : cw_IR) : Prop := ∀ (x1 x2 x3 : Int32), cw_OK g Iv mX11_slot mX12_slot [.int x1, .int x2, .int x3]
def cw_OK_listeners (g : cw_G) (Iv : cw_IR) : Prop := ∀ (x1 : Int32), cw_OK g Iv mX11_listeners mX12_listeners [.int x1]
def cw_OK_count (g : cw_G) (Iv : cw_IR) : Prop := ∀ (x1 : Int32), cw_OK g Iv mX11_count mX12_count [.int x1]
def cw_OKs (g : cw_G) (Iv : cw_IR) : Prop := cw_OK_feed g Iv ∧ cw_OK_back g Iv ∧ cw_OK_read g Iv ∧ cw_OK_place g Iv ∧ cw_OK_ground g Iv ∧ cw_OK_mast g Iv ∧ cw_OK_programme g Iv ∧ cw_OK_sheet g Iv ∧ cw_OK_cell g Iv ∧ cw_OK_clock g Iv ∧ cw_OK_report g Iv ∧ cw_OK_notice g Iv ∧ cw_OK_way g Iv ∧ cw_OK_sun g Iv ∧ cw_OK_correction g Iv ∧ cw_OK_strength g Iv ∧ cw_OK_yields g Iv ∧ cw_OK_rule g Iv ∧ cw_OK_schedule g Iv ∧ cw_OK_slot g Iv ∧ cw_OK_listeners g Iv ∧ cw_OK_count g Iv
section EvX
variable {g : cw_G} {Y : cw_M} {ce sl pc b Ln : Nat} {xs : Nat → Int32} {L : List (Option Value)} {st : List Value} {Q : Option Value → cw_H → Prop} {σ : cw_H}
theorem ev_scl {i : Int32} (hX : va_X b Ln xs g.2.1 g.2.1.heap) (hbz : b < cw_z g) (hd : decode Y.2.1 pc = .ok (.iaload, 1)) (hi : vp_in i Ln) (kk : Ev g Y ce sl (pc + 1) L (.int (xs i.toNatClampNeg) :: st) σ Q) : Ev g Y ce sl pc L (.int i :: .ref b :: st) σ Q := by
  intro p e s m args below meth c1 H locs ls hc hw hF hlv
  obtain ⟨scr, h1, h2, h3, h4, h5⟩ := va_X.moved hw.1.1 hX
  have hlt : i.toNatClampNeg < Ln := Nat.not_le.mp fun q => hi (Or.inr q)
  exact W.iald hc.1 hc.2.1 (by rw [hw.2.2.1 b hbz]; exact h1) h2 h3 (by rw [h4]; exact hi) (v := .int (xs i.toNatClampNeg)) (h5 _ hlt) rfl rfl hd (kk p e s m args below meth c1 H locs ls hc hw hF hlv)
theorem ev_scn (hX : va_X b Ln xs g.2.1 g.2.1.heap) (hbz : b < cw_z g) (hd : decode Y.2.1 pc = .ok (.arraylength, 1)) (kk : Ev g Y ce sl (pc + 1) L (.int (nI Ln) :: st) σ Q) : Ev g Y ce sl pc L (.ref b :: st) σ Q := by
  intro p e s m args below meth c1 H locs ls hc hw hF hlv
  obtain ⟨scr, h1, h2, h3, h4, h5⟩ := va_X.moved hw.1.1 hX
  exact W.alen (n := nI Ln) hc.1 hc.2.1 (by rw [hw.2.2.1 b hbz]; exact h1) h2 (by rw [h4] <;> rfl) rfl rfl hd (kk p e s m args below meth c1 H locs ls hc hw hF hlv)
end EvX
theorem cw_scb {i Ln : Nat} (j : Nat) (h : i + j < Ln) (hL : Ln ≤ 3584) : vp_in (nI i + nI j) Ln := by rw [nI_add]; exact vp_in_nI h (by omega)
set_option maxRecDepth 100000 in
set_option maxHeartbeats 4000000 in
theorem la_feed {g : cw_G} {Iv : cw_IR} {b Ln : Nat} {xs : Nat → Int32} {Q : Option Value → cw_H → Prop} (hX : va_X b Ln xs g.2.1 g.2.1.heap) (hbz : b < cw_z g) (hOK : cw_OK_feed g Iv) {x3 : Int32} (hb : ∀ j : Int32, j ∈ ([1, 2, 3, 4, 5, 6] : List Int32) → vp_in (x3 + j) Ln) {I A : Nat → Nat → Int32} {J : Nat → Nat → Int64} {t : Bool × Bool} (hI : Iv I A J t) (kk : ∀ I2 A2 J2 t2, Iv I2 A2 J2 t2 → Ev g mL_law 120 27563 1104 [some (.ref b), some (.ref (cw_z g + 0)), some (.ref (cw_z g + 68)), some (.int x3)] [] (hp g I2 A2 J2 t2) Q) : Ev g mL_law 120 27563 136 [some (.ref b), some (.ref (cw_z g + 0)), some (.ref (cw_z g + 68)), some (.int x3)] [] (hp g I A J t) Q := by
  obtain ⟨r, I1, A1, J1, t1, I2, A2, J2, t2, h1, h2, hI2⟩ := hOK (xs (x3 + 1).toNatClampNeg) (xs (x3 + 2).toNatClampNeg) (xs (x3 + 3).toNatClampNeg) (xs (x3 + 4).toNatClampNeg) (xs (x3 + 5).toNatClampNeg) I A J t hI
  refine ev_aload_n (pc := 136) dL_law_136 rfl ?_
  refine ev_aload_n (pc := 137) dL_law_137 rfl ?_
  refine ev_iload_n (pc := 138) dL_law_138 rfl ?_
  refine ev_iconst (pc := 139) (v := 1) dL_law_139 (by decide) ?_
  refine ev_iadd (pc := 140) dL_law_140 ?_
  refine ev_scl (pc := 141) hX hbz dL_law_141 (hb 1 (by decide)) ?_
  refine ev_aload_n (pc := 142) dL_law_142 rfl ?_
  refine ev_iload_n (pc := 143) dL_law_143 rfl ?_
  refine ev_iconst (pc := 144) (v := 2) dL_law_144 (by decide) ?_
  refine ev_iadd (pc := 145) dL_law_145 ?_
  refine ev_scl (pc := 146) hX hbz dL_law_146 (hb 2 (by decide)) ?_
  refine ev_aload_n (pc := 147) dL_law_147 rfl ?_
  refine ev_iload_n (pc := 148) dL_law_148 rfl ?_
  refine ev_iconst (pc := 149) (v := 3) dL_law_149 (by decide) ?_
  refine ev_iadd (pc := 150) dL_law_150 ?_
  refine ev_scl (pc := 151) hX hbz dL_law_151 (hb 3 (by decide)) ?_
  refine ev_aload_n (pc := 152) dL_law_152 rfl ?_
  refine ev_iload_n (pc := 153) dL_law_153 rfl ?_
  refine ev_iconst (pc := 154) (v := 4) dL_law_154 (by decide) ?_
  refine ev_iadd (pc := 155) dL_law_155 ?_
  refine ev_scl (pc := 156) hX hbz dL_law_156 (hb 4 (by decide)) ?_
  refine ev_aload_n (pc := 157) dL_law_157 rfl ?_
  refine ev_iload_n (pc := 158) dL_law_158 rfl ?_
  refine ev_iconst (pc := 159) (v := 5) dL_law_159 (by decide) ?_
  refine ev_iadd (pc := 160) dL_law_160 ?_
  refine ev_scl (pc := 161) hX hbz dL_law_161 (hb 5 (by decide)) ?_
  refine ev_Vi (pc := 162) dL_law_162 lk_L_13 cd_X11_feed ar_X11_feed ⟨by decide, rfl, rfl⟩ h1 (show 0 < 120 by decide) rfl rfl rfl rfl (Nat.le_of_ble_eq_true rfl) ⟨by decide, by decide⟩ ?_
  refine ev_aload_n (pc := 165) dL_law_165 rfl ?_
  refine ev_aload_n (pc := 166) dL_law_166 rfl ?_
  refine ev_iload_n (pc := 167) dL_law_167 rfl ?_
  refine ev_iconst (pc := 168) (v := 1) dL_law_168 (by decide) ?_
  refine ev_iadd (pc := 169) dL_law_169 ?_
  refine ev_scl (pc := 170) hX hbz dL_law_170 (hb 1 (by decide)) ?_
  refine ev_aload_n (pc := 171) dL_law_171 rfl ?_
  refine ev_iload_n (pc := 172) dL_law_172 rfl ?_
  refine ev_iconst (pc := 173) (v := 2) dL_law_173 (by decide) ?_
  refine ev_iadd (pc := 174) dL_law_174 ?_
  refine ev_scl (pc := 175) hX hbz dL_law_175 (hb 2 (by decide)) ?_
  refine ev_aload_n (pc := 176) dL_law_176 rfl ?_
  refine ev_iload_n (pc := 177) dL_law_177 rfl ?_
  refine ev_iconst (pc := 178) (v := 3) dL_law_178 (by decide) ?_
  refine ev_iadd (pc := 179) dL_law_179 ?_
  refine ev_scl (pc := 180) hX hbz dL_law_180 (hb 3 (by decide)) ?_
  refine ev_aload_n (pc := 181) dL_law_181 rfl ?_
  refine ev_iload_n (pc := 182) dL_law_182 rfl ?_
  refine ev_iconst (pc := 183) (v := 4) dL_law_183 (by decide) ?_
  refine ev_iadd (pc := 184) dL_law_184 ?_
  refine ev_scl (pc := 185) hX hbz dL_law_185 (hb 4 (by decide)) ?_
  refine ev_aload_n (pc := 186) dL_law_186 rfl ?_
  refine ev_iload_n (pc := 187) dL_law_187 rfl ?_
  refine ev_iconst (pc := 188) (v := 5) dL_law_188 (by decide) ?_
  refine ev_iadd (pc := 189) dL_law_189 ?_
  refine ev_scl (pc := 190) hX hbz dL_law_190 (hb 5 (by decide)) ?_
  refine ev_Vi (pc := 191) dL_law_191 lk_L_17 cd_X12_feed ar_X12_feed ⟨by decide, rfl, rfl⟩ h2 (show 68 < 120 by decide) rfl rfl rfl rfl (Nat.le_of_ble_eq_true rfl) ⟨by decide, by decide⟩ ?_
  exact ev_icmp_eq (pc := 194) (tgt := 1104) dL_law_194 (by decide) (fun _ => kk I2 A2 J2 t2 hI2) (fun c => absurd rfl c)
set_option maxRecDepth 100000 in
set_option maxHeartbeats 4000000 in
theorem la_back {g : cw_G} {Iv : cw_IR} {b Ln : Nat} {xs : Nat → Int32} {Q : Option Value → cw_H → Prop} (hX : va_X b Ln xs g.2.1 g.2.1.heap) (hbz : b < cw_z g) (hOK : cw_OK_back g Iv) {x3 : Int32} (hb : ∀ j : Int32, j ∈ ([1, 2, 3, 4, 5, 6] : List Int32) → vp_in (x3 + j) Ln) {I A : Nat → Nat → Int32} {J : Nat → Nat → Int64} {t : Bool × Bool} (hI : Iv I A J t) (kk : ∀ I2 A2 J2 t2, Iv I2 A2 J2 t2 → Ev g mL_law 120 27563 1104 [some (.ref b), some (.ref (cw_z g + 0)), some (.ref (cw_z g + 68)), some (.int x3)] [] (hp g I2 A2 J2 t2) Q) : Ev g mL_law 120 27563 199 [some (.ref b), some (.ref (cw_z g + 0)), some (.ref (cw_z g + 68)), some (.int x3)] [] (hp g I A J t) Q := by
  obtain ⟨r, I1, A1, J1, t1, I2, A2, J2, t2, h1, h2, hI2⟩ := hOK (xs (x3 + 1).toNatClampNeg) I A J t hI
  refine ev_aload_n (pc := 199) dL_law_199 rfl ?_
  refine ev_aload_n (pc := 200) dL_law_200 rfl ?_
  refine ev_iload_n (pc := 201) dL_law_201 rfl ?_
  refine ev_iconst (pc := 202) (v := 1) dL_law_202 (by decide) ?_
  refine ev_iadd (pc := 203) dL_law_203 ?_
  refine ev_scl (pc := 204) hX hbz dL_law_204 (hb 1 (by decide)) ?_
  refine ev_Vi (pc := 205) dL_law_205 lk_L_18 cd_X11_back ar_X11_back ⟨by decide, rfl, rfl⟩ h1 (show 0 < 120 by decide) rfl rfl rfl rfl (Nat.le_of_ble_eq_true rfl) ⟨by decide, by decide⟩ ?_
  refine ev_aload_n (pc := 208) dL_law_208 rfl ?_
  refine ev_aload_n (pc := 209) dL_law_209 rfl ?_
  refine ev_iload_n (pc := 210) dL_law_210 rfl ?_
  refine ev_iconst (pc := 211) (v := 1) dL_law_211 (by decide) ?_
  refine ev_iadd (pc := 212) dL_law_212 ?_
  refine ev_scl (pc := 213) hX hbz dL_law_213 (hb 1 (by decide)) ?_
  refine ev_Vi (pc := 214) dL_law_214 lk_L_22 cd_X12_back ar_X12_back ⟨by decide, rfl, rfl⟩ h2 (show 68 < 120 by decide) rfl rfl rfl rfl (Nat.le_of_ble_eq_true rfl) ⟨by decide, by decide⟩ ?_
  exact ev_icmp_eq (pc := 217) (tgt := 1104) dL_law_217 (by decide) (fun _ => kk I2 A2 J2 t2 hI2) (fun c => absurd rfl c)
set_option maxRecDepth 100000 in
set_option maxHeartbeats 4000000 in
theorem la_read {g : cw_G} {Iv : cw_IR} {b Ln : Nat} {xs : Nat → Int32} {Q : Option Value → cw_H → Prop} (hX : va_X b Ln xs g.2.1 g.2.1.heap) (hbz : b < cw_z g) (hOK : cw_OK_read g Iv) {x3 : Int32} (hb : ∀ j : Int32, j ∈ ([1, 2, 3, 4, 5, 6] : List Int32) → vp_in (x3 + j) Ln) {I A : Nat → Nat → Int32} {J : Nat → Nat → Int64} {t : Bool × Bool} (hI : Iv I A J t) (kk : ∀ I2 A2 J2 t2, Iv I2 A2 J2 t2 → Ev g mL_law 120 27563 1104 [some (.ref b), some (.ref (cw_z g + 0)), some (.ref (cw_z g + 68)), some (.int x3)] [] (hp g I2 A2 J2 t2) Q) : Ev g mL_law 120 27563 222 [some (.ref b), some (.ref (cw_z g + 0)), some (.ref (cw_z g + 68)), some (.int x3)] [] (hp g I A J t) Q := by
  obtain ⟨r, I1, A1, J1, t1, I2, A2, J2, t2, h1, h2, hI2⟩ := hOK I A J t hI
  refine ev_aload_n (pc := 222) dL_law_222 rfl ?_
  refine ev_Vi (pc := 223) dL_law_223 lk_L_23 cd_X11_read ar_X11_read ⟨by decide, rfl, rfl⟩ h1 (show 0 < 120 by decide) rfl rfl rfl rfl (Nat.le_of_ble_eq_true rfl) ⟨by decide, by decide⟩ ?_
  refine ev_aload_n (pc := 226) dL_law_226 rfl ?_
  refine ev_Vi (pc := 227) dL_law_227 lk_L_27 cd_X12_read ar_X12_read ⟨by decide, rfl, rfl⟩ h2 (show 68 < 120 by decide) rfl rfl rfl rfl (Nat.le_of_ble_eq_true rfl) ⟨by decide, by decide⟩ ?_
  exact ev_icmp_eq (pc := 230) (tgt := 1104) dL_law_230 (by decide) (fun _ => kk I2 A2 J2 t2 hI2) (fun c => absurd rfl c)
set_option maxRecDepth 100000 in
set_option maxHeartbeats 4000000 in
theorem la_place {g : cw_G} {Iv : cw_IR} {b Ln : Nat} {xs : Nat → Int32} {Q : Option Value → cw_H → Prop} (hX : va_X b Ln xs g.2.1 g.2.1.heap) (hbz : b < cw_z g) (hOK : cw_OK_place g Iv) {x3 : Int32} (hb : ∀ j : Int32, j ∈ ([1, 2, 3, 4, 5, 6] : List Int32) → vp_in (x3 + j) Ln) {I A : Nat → Nat → Int32} {J : Nat → Nat → Int64} {t : Bool × Bool} (hI : Iv I A J t) (kk : ∀ I2 A2 J2 t2, Iv I2 A2 J2 t2 → Ev g mL_law 120 27563 1104 [some (.ref b), some (.ref (cw_z g + 0)), some (.ref (cw_z g + 68)), some (.int x3)] [] (hp g I2 A2 J2 t2) Q) : Ev g mL_law 120 27563 235 [some (.ref b), some (.ref (cw_z g + 0)), some (.ref (cw_z g + 68)), some (.int x3)] [] (hp g I A J t) Q := by
  obtain ⟨r, I1, A1, J1, t1, I2, A2, J2, t2, h1, h2, hI2⟩ := hOK I A J t hI
  refine ev_aload_n (pc := 235) dL_law_235 rfl ?_
  refine ev_Vi (pc := 236) dL_law_236 lk_L_28 cd_X11_place ar_X11_place ⟨by decide, rfl, rfl⟩ h1 (show 0 < 120 by decide) rfl rfl rfl rfl (Nat.le_of_ble_eq_true rfl) ⟨by decide, by decide⟩ ?_
  refine ev_aload_n (pc := 239) dL_law_239 rfl ?_
  refine ev_Vi (pc := 240) dL_law_240 lk_L_31 cd_X12_place ar_X12_place ⟨by decide, rfl, rfl⟩ h2 (show 68 < 120 by decide) rfl rfl rfl rfl (Nat.le_of_ble_eq_true rfl) ⟨by decide, by decide⟩ ?_
  exact ev_icmp_eq (pc := 243) (tgt := 1104) dL_law_243 (by decide) (fun _ => kk I2 A2 J2 t2 hI2) (fun c => absurd rfl c)
set_option maxRecDepth 100000 in
set_option maxHeartbeats 4000000 in
theorem la_ground {g : cw_G} {Iv : cw_IR} {b Ln : Nat} {xs : Nat → Int32} {Q : Option Value → cw_H → Prop} (hX : va_X b Ln xs g.2.1 g.2.1.heap) (hbz : b < cw_z g) (hOK : cw_OK_ground g Iv) {x3 : Int32} (hb : ∀ j : Int32, j ∈ ([1, 2, 3, 4, 5, 6] : List Int32) → vp_in (x3 + j) Ln) {I A : Nat → Nat → Int32} {J : Nat → Nat → Int64} {t : Bool × Bool} (hI : Iv I A J t) (kk : ∀ I2 A2 J2 t2, Iv I2 A2 J2 t2 → Ev g mL_law 120 27563 1104 [some (.ref b), some (.ref (cw_z g + 0)), some (.ref (cw_z g + 68)), some (.int x3)] [] (hp g I2 A2 J2 t2) Q) : Ev g mL_law 120 27563 248 [some (.ref b), some (.ref (cw_z g + 0)), some (.ref (cw_z g + 68)), some (.int x3)] [] (hp g I A J t) Q := by
  obtain ⟨r, I1, A1, J1, t1, I2, A2, J2, t2, h1, h2, hI2⟩ := hOK (xs (x3 + 1).toNatClampNeg) (xs (x3 + 2).toNatClampNeg) (xs (x3 + 3).toNatClampNeg) I A J t hI
  refine ev_aload_n (pc := 248) dL_law_248 rfl ?_
  refine ev_aload_n (pc := 249) dL_law_249 rfl ?_
  refine ev_iload_n (pc := 250) dL_law_250 rfl ?_
  refine ev_iconst (pc := 251) (v := 1) dL_law_251 (by decide) ?_
  refine ev_iadd (pc := 252) dL_law_252 ?_
  refine ev_scl (pc := 253) hX hbz dL_law_253 (hb 1 (by decide)) ?_
  refine ev_aload_n (pc := 254) dL_law_254 rfl ?_
  refine ev_iload_n (pc := 255) dL_law_255 rfl ?_
  refine ev_iconst (pc := 256) (v := 2) dL_law_256 (by decide) ?_
  refine ev_iadd (pc := 257) dL_law_257 ?_
  refine ev_scl (pc := 258) hX hbz dL_law_258 (hb 2 (by decide)) ?_
  refine ev_aload_n (pc := 259) dL_law_259 rfl ?_
  refine ev_iload_n (pc := 260) dL_law_260 rfl ?_
  refine ev_iconst (pc := 261) (v := 3) dL_law_261 (by decide) ?_
  refine ev_iadd (pc := 262) dL_law_262 ?_
  refine ev_scl (pc := 263) hX hbz dL_law_263 (hb 3 (by decide)) ?_
  refine ev_Vi (pc := 264) dL_law_264 lk_L_32 cd_X11_ground ar_X11_ground ⟨by decide, rfl, rfl⟩ h1 (show 0 < 120 by decide) rfl rfl rfl rfl (Nat.le_of_ble_eq_true rfl) ⟨by decide, by decide⟩ ?_
  refine ev_aload_n (pc := 267) dL_law_267 rfl ?_
  refine ev_aload_n (pc := 268) dL_law_268 rfl ?_
  refine ev_iload_n (pc := 269) dL_law_269 rfl ?_
  refine ev_iconst (pc := 270) (v := 1) dL_law_270 (by decide) ?_
  refine ev_iadd (pc := 271) dL_law_271 ?_
  refine ev_scl (pc := 272) hX hbz dL_law_272 (hb 1 (by decide)) ?_
  refine ev_aload_n (pc := 273) dL_law_273 rfl ?_
  refine ev_iload_n (pc := 274) dL_law_274 rfl ?_
  refine ev_iconst (pc := 275) (v := 2) dL_law_275 (by decide) ?_
  refine ev_iadd (pc := 276) dL_law_276 ?_
  refine ev_scl (pc := 277) hX hbz dL_law_277 (hb 2 (by decide)) ?_
  refine ev_aload_n (pc := 278) dL_law_278 rfl ?_
  refine ev_iload_n (pc := 279) dL_law_279 rfl ?_
  refine ev_iconst (pc := 280) (v := 3) dL_law_280 (by decide) ?_
  refine ev_iadd (pc := 281) dL_law_281 ?_
  refine ev_scl (pc := 282) hX hbz dL_law_282 (hb 3 (by decide)) ?_
  refine ev_Vi (pc := 283) dL_law_283 lk_L_36 cd_X12_ground ar_X12_ground ⟨by decide, rfl, rfl⟩ h2 (show 68 < 120 by decide) rfl rfl rfl rfl (Nat.le_of_ble_eq_true rfl) ⟨by decide, by decide⟩ ?_
  exact ev_icmp_eq (pc := 286) (tgt := 1104) dL_law_286 (by decide) (fun _ => kk I2 A2 J2 t2 hI2) (fun c => absurd rfl c)
set_option maxRecDepth 100000 in
set_option maxHeartbeats 4000000 in
theorem la_mast {g : cw_G} {Iv : cw_IR} {b Ln : Nat} {xs : Nat → Int32} {Q : Option Value → cw_H → Prop} (hX : va_X b Ln xs g.2.1 g.2.1.heap) (hbz : b < cw_z g) (hOK : cw_OK_mast g Iv) {x3 : Int32} (hb : ∀ j : Int32, j ∈ ([1, 2, 3, 4, 5, 6] : List Int32) → vp_in (x3 + j) Ln) {I A : Nat → Nat → Int32} {J : Nat → Nat → Int64} {t : Bool × Bool} (hI : Iv I A J t) (kk : ∀ I2 A2 J2 t2, Iv I2 A2 J2 t2 → Ev g mL_law 120 27563 1104 [some (.ref b), some (.ref (cw_z g + 0)), some (.ref (cw_z g + 68)), some (.int x3)] [] (hp g I2 A2 J2 t2) Q) : Ev g mL_law 120 27563 291 [some (.ref b), some (.ref (cw_z g + 0)), some (.ref (cw_z g + 68)), some (.int x3)] [] (hp g I A J t) Q := by
  obtain ⟨r, I1, A1, J1, t1, I2, A2, J2, t2, h1, h2, hI2⟩ := hOK (xs (x3 + 1).toNatClampNeg) (xs (x3 + 2).toNatClampNeg) I A J t hI
  refine ev_aload_n (pc := 291) dL_law_291 rfl ?_
  refine ev_aload_n (pc := 292) dL_law_292 rfl ?_
  refine ev_iload_n (pc := 293) dL_law_293 rfl ?_
  refine ev_iconst (pc := 294) (v := 1) dL_law_294 (by decide) ?_
  refine ev_iadd (pc := 295) dL_law_295 ?_
  refine ev_scl (pc := 296) hX hbz dL_law_296 (hb 1 (by decide)) ?_
  refine ev_aload_n (pc := 297) dL_law_297 rfl ?_
  refine ev_iload_n (pc := 298) dL_law_298 rfl ?_
  refine ev_iconst (pc := 299) (v := 2) dL_law_299 (by decide) ?_
  refine ev_iadd (pc := 300) dL_law_300 ?_
  refine ev_scl (pc := 301) hX hbz dL_law_301 (hb 2 (by decide)) ?_
  refine ev_Vi (pc := 302) dL_law_302 lk_L_37 cd_X11_mast ar_X11_mast ⟨by decide, rfl, rfl⟩ h1 (show 0 < 120 by decide) rfl rfl rfl rfl (Nat.le_of_ble_eq_true rfl) ⟨by decide, by decide⟩ ?_
  refine ev_aload_n (pc := 305) dL_law_305 rfl ?_
  refine ev_aload_n (pc := 306) dL_law_306 rfl ?_
  refine ev_iload_n (pc := 307) dL_law_307 rfl ?_
  refine ev_iconst (pc := 308) (v := 1) dL_law_308 (by decide) ?_
  refine ev_iadd (pc := 309) dL_law_309 ?_
  refine ev_scl (pc := 310) hX hbz dL_law_310 (hb 1 (by decide)) ?_
  refine ev_aload_n (pc := 311) dL_law_311 rfl ?_
  refine ev_iload_n (pc := 312) dL_law_312 rfl ?_
  refine ev_iconst (pc := 313) (v := 2) dL_law_313 (by decide) ?_
  refine ev_iadd (pc := 314) dL_law_314 ?_
  refine ev_scl (pc := 315) hX hbz dL_law_315 (hb 2 (by decide)) ?_
  refine ev_Vi (pc := 316) dL_law_316 lk_L_41 cd_X12_mast ar_X12_mast ⟨by decide, rfl, rfl⟩ h2 (show 68 < 120 by decide) rfl rfl rfl rfl (Nat.le_of_ble_eq_true rfl) ⟨by decide, by decide⟩ ?_
  exact ev_icmp_eq (pc := 319) (tgt := 1104) dL_law_319 (by decide) (fun _ => kk I2 A2 J2 t2 hI2) (fun c => absurd rfl c)
set_option maxRecDepth 100000 in
set_option maxHeartbeats 4000000 in
theorem la_programme {g : cw_G} {Iv : cw_IR} {b Ln : Nat} {xs : Nat → Int32} {Q : Option Value → cw_H → Prop} (hX : va_X b Ln xs g.2.1 g.2.1.heap) (hbz : b < cw_z g) (hOK : cw_OK_programme g Iv) {x3 : Int32} (hb : ∀ j : Int32, j ∈ ([1, 2, 3, 4, 5, 6] : List Int32) → vp_in (x3 + j) Ln) {I A : Nat → Nat → Int32} {J : Nat → Nat → Int64} {t : Bool × Bool} (hI : Iv I A J t) (kk : ∀ I2 A2 J2 t2, Iv I2 A2 J2 t2 → Ev g mL_law 120 27563 1104 [some (.ref b), some (.ref (cw_z g + 0)), some (.ref (cw_z g + 68)), some (.int x3)] [] (hp g I2 A2 J2 t2) Q) : Ev g mL_law 120 27563 324 [some (.ref b), some (.ref (cw_z g + 0)), some (.ref (cw_z g + 68)), some (.int x3)] [] (hp g I A J t) Q := by
  obtain ⟨r, I1, A1, J1, t1, I2, A2, J2, t2, h1, h2, hI2⟩ := hOK (xs (x3 + 1).toNatClampNeg) (xs (x3 + 2).toNatClampNeg) (xs (x3 + 3).toNatClampNeg) I A J t hI
  refine ev_aload_n (pc := 324) dL_law_324 rfl ?_
  refine ev_aload_n (pc := 325) dL_law_325 rfl ?_
  refine ev_iload_n (pc := 326) dL_law_326 rfl ?_
  refine ev_iconst (pc := 327) (v := 1) dL_law_327 (by decide) ?_
  refine ev_iadd (pc := 328) dL_law_328 ?_
  refine ev_scl (pc := 329) hX hbz dL_law_329 (hb 1 (by decide)) ?_
  refine ev_aload_n (pc := 330) dL_law_330 rfl ?_
  refine ev_iload_n (pc := 331) dL_law_331 rfl ?_
  refine ev_iconst (pc := 332) (v := 2) dL_law_332 (by decide) ?_
  refine ev_iadd (pc := 333) dL_law_333 ?_
  refine ev_scl (pc := 334) hX hbz dL_law_334 (hb 2 (by decide)) ?_
  refine ev_aload_n (pc := 335) dL_law_335 rfl ?_
  refine ev_iload_n (pc := 336) dL_law_336 rfl ?_
  refine ev_iconst (pc := 337) (v := 3) dL_law_337 (by decide) ?_
  refine ev_iadd (pc := 338) dL_law_338 ?_
  refine ev_scl (pc := 339) hX hbz dL_law_339 (hb 3 (by decide)) ?_
  refine ev_Vi (pc := 340) dL_law_340 lk_L_42 cd_X11_programme ar_X11_programme ⟨by decide, rfl, rfl⟩ h1 (show 0 < 120 by decide) rfl rfl rfl rfl (Nat.le_of_ble_eq_true rfl) ⟨by decide, by decide⟩ ?_
  refine ev_aload_n (pc := 343) dL_law_343 rfl ?_
  refine ev_aload_n (pc := 344) dL_law_344 rfl ?_
  refine ev_iload_n (pc := 345) dL_law_345 rfl ?_
  refine ev_iconst (pc := 346) (v := 1) dL_law_346 (by decide) ?_
  refine ev_iadd (pc := 347) dL_law_347 ?_
  refine ev_scl (pc := 348) hX hbz dL_law_348 (hb 1 (by decide)) ?_
  refine ev_aload_n (pc := 349) dL_law_349 rfl ?_
  refine ev_iload_n (pc := 350) dL_law_350 rfl ?_
  refine ev_iconst (pc := 351) (v := 2) dL_law_351 (by decide) ?_
  refine ev_iadd (pc := 352) dL_law_352 ?_
  refine ev_scl (pc := 353) hX hbz dL_law_353 (hb 2 (by decide)) ?_
  refine ev_aload_n (pc := 354) dL_law_354 rfl ?_
  refine ev_iload_n (pc := 355) dL_law_355 rfl ?_
  refine ev_iconst (pc := 356) (v := 3) dL_law_356 (by decide) ?_
  refine ev_iadd (pc := 357) dL_law_357 ?_
  refine ev_scl (pc := 358) hX hbz dL_law_358 (hb 3 (by decide)) ?_
  refine ev_Vi (pc := 359) dL_law_359 lk_L_45 cd_X12_programme ar_X12_programme ⟨by decide, rfl, rfl⟩ h2 (show 68 < 120 by decide) rfl rfl rfl rfl (Nat.le_of_ble_eq_true rfl) ⟨by decide, by decide⟩ ?_
  exact ev_icmp_eq (pc := 362) (tgt := 1104) dL_law_362 (by decide) (fun _ => kk I2 A2 J2 t2 hI2) (fun c => absurd rfl c)
set_option maxRecDepth 100000 in
set_option maxHeartbeats 4000000 in
theorem la_sheet {g : cw_G} {Iv : cw_IR} {b Ln : Nat} {xs : Nat → Int32} {Q : Option Value → cw_H → Prop} (hX : va_X b Ln xs g.2.1 g.2.1.heap) (hbz : b < cw_z g) (hOK : cw_OK_sheet g Iv) {x3 : Int32} (hb : ∀ j : Int32, j ∈ ([1, 2, 3, 4, 5, 6] : List Int32) → vp_in (x3 + j) Ln) {I A : Nat → Nat → Int32} {J : Nat → Nat → Int64} {t : Bool × Bool} (hI : Iv I A J t) (kk : ∀ I2 A2 J2 t2, Iv I2 A2 J2 t2 → Ev g mL_law 120 27563 1104 [some (.ref b), some (.ref (cw_z g + 0)), some (.ref (cw_z g + 68)), some (.int x3)] [] (hp g I2 A2 J2 t2) Q) : Ev g mL_law 120 27563 367 [some (.ref b), some (.ref (cw_z g + 0)), some (.ref (cw_z g + 68)), some (.int x3)] [] (hp g I A J t) Q := by
  obtain ⟨r, I1, A1, J1, t1, I2, A2, J2, t2, h1, h2, hI2⟩ := hOK (xs (x3 + 1).toNatClampNeg) (xs (x3 + 2).toNatClampNeg) I A J t hI
  refine ev_aload_n (pc := 367) dL_law_367 rfl ?_
  refine ev_aload_n (pc := 368) dL_law_368 rfl ?_
  refine ev_iload_n (pc := 369) dL_law_369 rfl ?_
  refine ev_iconst (pc := 370) (v := 1) dL_law_370 (by decide) ?_
  refine ev_iadd (pc := 371) dL_law_371 ?_
  refine ev_scl (pc := 372) hX hbz dL_law_372 (hb 1 (by decide)) ?_
  refine ev_aload_n (pc := 373) dL_law_373 rfl ?_
  refine ev_iload_n (pc := 374) dL_law_374 rfl ?_
  refine ev_iconst (pc := 375) (v := 2) dL_law_375 (by decide) ?_
  refine ev_iadd (pc := 376) dL_law_376 ?_
  refine ev_scl (pc := 377) hX hbz dL_law_377 (hb 2 (by decide)) ?_
  refine ev_Vi (pc := 378) dL_law_378 lk_L_46 cd_X11_sheet ar_X11_sheet ⟨by decide, rfl, rfl⟩ h1 (show 0 < 120 by decide) rfl rfl rfl rfl (Nat.le_of_ble_eq_true rfl) ⟨by decide, by decide⟩ ?_
  refine ev_aload_n (pc := 381) dL_law_381 rfl ?_
  refine ev_aload_n (pc := 382) dL_law_382 rfl ?_
  refine ev_iload_n (pc := 383) dL_law_383 rfl ?_
  refine ev_iconst (pc := 384) (v := 1) dL_law_384 (by decide) ?_
  refine ev_iadd (pc := 385) dL_law_385 ?_
  refine ev_scl (pc := 386) hX hbz dL_law_386 (hb 1 (by decide)) ?_
  refine ev_aload_n (pc := 387) dL_law_387 rfl ?_
  refine ev_iload_n (pc := 388) dL_law_388 rfl ?_
  refine ev_iconst (pc := 389) (v := 2) dL_law_389 (by decide) ?_
  refine ev_iadd (pc := 390) dL_law_390 ?_
  refine ev_scl (pc := 391) hX hbz dL_law_391 (hb 2 (by decide)) ?_
  refine ev_Vi (pc := 392) dL_law_392 lk_L_50 cd_X12_sheet ar_X12_sheet ⟨by decide, rfl, rfl⟩ h2 (show 68 < 120 by decide) rfl rfl rfl rfl (Nat.le_of_ble_eq_true rfl) ⟨by decide, by decide⟩ ?_
  exact ev_icmp_eq (pc := 395) (tgt := 1104) dL_law_395 (by decide) (fun _ => kk I2 A2 J2 t2 hI2) (fun c => absurd rfl c)
set_option maxRecDepth 100000 in
set_option maxHeartbeats 4000000 in
theorem la_cell {g : cw_G} {Iv : cw_IR} {b Ln : Nat} {xs : Nat → Int32} {Q : Option Value → cw_H → Prop} (hX : va_X b Ln xs g.2.1 g.2.1.heap) (hbz : b < cw_z g) (hOK : cw_OK_cell g Iv) {x3 : Int32} (hb : ∀ j : Int32, j ∈ ([1, 2, 3, 4, 5, 6] : List Int32) → vp_in (x3 + j) Ln) {I A : Nat → Nat → Int32} {J : Nat → Nat → Int64} {t : Bool × Bool} (hI : Iv I A J t) (kk : ∀ I2 A2 J2 t2, Iv I2 A2 J2 t2 → Ev g mL_law 120 27563 1104 [some (.ref b), some (.ref (cw_z g + 0)), some (.ref (cw_z g + 68)), some (.int x3)] [] (hp g I2 A2 J2 t2) Q) : Ev g mL_law 120 27563 400 [some (.ref b), some (.ref (cw_z g + 0)), some (.ref (cw_z g + 68)), some (.int x3)] [] (hp g I A J t) Q := by
  obtain ⟨r, I1, A1, J1, t1, I2, A2, J2, t2, h1, h2, hI2⟩ := hOK (xs (x3 + 1).toNatClampNeg) (xs (x3 + 2).toNatClampNeg) (xs (x3 + 3).toNatClampNeg) I A J t hI
  refine ev_aload_n (pc := 400) dL_law_400 rfl ?_
  refine ev_aload_n (pc := 401) dL_law_401 rfl ?_
  refine ev_iload_n (pc := 402) dL_law_402 rfl ?_
  refine ev_iconst (pc := 403) (v := 1) dL_law_403 (by decide) ?_
  refine ev_iadd (pc := 404) dL_law_404 ?_
  refine ev_scl (pc := 405) hX hbz dL_law_405 (hb 1 (by decide)) ?_
  refine ev_aload_n (pc := 406) dL_law_406 rfl ?_
  refine ev_iload_n (pc := 407) dL_law_407 rfl ?_
  refine ev_iconst (pc := 408) (v := 2) dL_law_408 (by decide) ?_
  refine ev_iadd (pc := 409) dL_law_409 ?_
  refine ev_scl (pc := 410) hX hbz dL_law_410 (hb 2 (by decide)) ?_
  refine ev_aload_n (pc := 411) dL_law_411 rfl ?_
  refine ev_iload_n (pc := 412) dL_law_412 rfl ?_
  refine ev_iconst (pc := 413) (v := 3) dL_law_413 (by decide) ?_
  refine ev_iadd (pc := 414) dL_law_414 ?_
  refine ev_scl (pc := 415) hX hbz dL_law_415 (hb 3 (by decide)) ?_
  refine ev_Vi (pc := 416) dL_law_416 lk_L_51 cd_X11_cell ar_X11_cell ⟨by decide, rfl, rfl⟩ h1 (show 0 < 120 by decide) rfl rfl rfl rfl (Nat.le_of_ble_eq_true rfl) ⟨by decide, by decide⟩ ?_
  refine ev_aload_n (pc := 419) dL_law_419 rfl ?_
  refine ev_aload_n (pc := 420) dL_law_420 rfl ?_
  refine ev_iload_n (pc := 421) dL_law_421 rfl ?_
  refine ev_iconst (pc := 422) (v := 1) dL_law_422 (by decide) ?_
  refine ev_iadd (pc := 423) dL_law_423 ?_
  refine ev_scl (pc := 424) hX hbz dL_law_424 (hb 1 (by decide)) ?_
  refine ev_aload_n (pc := 425) dL_law_425 rfl ?_
  refine ev_iload_n (pc := 426) dL_law_426 rfl ?_
  refine ev_iconst (pc := 427) (v := 2) dL_law_427 (by decide) ?_
  refine ev_iadd (pc := 428) dL_law_428 ?_
  refine ev_scl (pc := 429) hX hbz dL_law_429 (hb 2 (by decide)) ?_
  refine ev_aload_n (pc := 430) dL_law_430 rfl ?_
  refine ev_iload_n (pc := 431) dL_law_431 rfl ?_
  refine ev_iconst (pc := 432) (v := 3) dL_law_432 (by decide) ?_
  refine ev_iadd (pc := 433) dL_law_433 ?_
  refine ev_scl (pc := 434) hX hbz dL_law_434 (hb 3 (by decide)) ?_
  refine ev_Vi (pc := 435) dL_law_435 lk_L_55 cd_X12_cell ar_X12_cell ⟨by decide, rfl, rfl⟩ h2 (show 68 < 120 by decide) rfl rfl rfl rfl (Nat.le_of_ble_eq_true rfl) ⟨by decide, by decide⟩ ?_
  exact ev_icmp_eq (pc := 438) (tgt := 1104) dL_law_438 (by decide) (fun _ => kk I2 A2 J2 t2 hI2) (fun c => absurd rfl c)
set_option maxRecDepth 100000 in
set_option maxHeartbeats 4000000 in
theorem la_clock {g : cw_G} {Iv : cw_IR} {b Ln : Nat} {xs : Nat → Int32} {Q : Option Value → cw_H → Prop} (hX : va_X b Ln xs g.2.1 g.2.1.heap) (hbz : b < cw_z g) (hOK : cw_OK_clock g Iv) {x3 : Int32} (hb : ∀ j : Int32, j ∈ ([1, 2, 3, 4, 5, 6] : List Int32) → vp_in (x3 + j) Ln) {I A : Nat → Nat → Int32} {J : Nat → Nat → Int64} {t : Bool × Bool} (hI : Iv I A J t) (kk : ∀ I2 A2 J2 t2, Iv I2 A2 J2 t2 → Ev g mL_law 120 27563 1104 [some (.ref b), some (.ref (cw_z g + 0)), some (.ref (cw_z g + 68)), some (.int x3)] [] (hp g I2 A2 J2 t2) Q) : Ev g mL_law 120 27563 443 [some (.ref b), some (.ref (cw_z g + 0)), some (.ref (cw_z g + 68)), some (.int x3)] [] (hp g I A J t) Q := by
  obtain ⟨r, I1, A1, J1, t1, I2, A2, J2, t2, h1, h2, hI2⟩ := hOK (xs (x3 + 1).toNatClampNeg) I A J t hI
  refine ev_aload_n (pc := 443) dL_law_443 rfl ?_
  refine ev_aload_n (pc := 444) dL_law_444 rfl ?_
  refine ev_iload_n (pc := 445) dL_law_445 rfl ?_
  refine ev_iconst (pc := 446) (v := 1) dL_law_446 (by decide) ?_
  refine ev_iadd (pc := 447) dL_law_447 ?_
  refine ev_scl (pc := 448) hX hbz dL_law_448 (hb 1 (by decide)) ?_
  refine ev_Vi (pc := 449) dL_law_449 lk_L_56 cd_X11_clock ar_X11_clock ⟨by decide, rfl, rfl⟩ h1 (show 0 < 120 by decide) rfl rfl rfl rfl (Nat.le_of_ble_eq_true rfl) ⟨by decide, by decide⟩ ?_
  refine ev_aload_n (pc := 452) dL_law_452 rfl ?_
  refine ev_aload_n (pc := 453) dL_law_453 rfl ?_
  refine ev_iload_n (pc := 454) dL_law_454 rfl ?_
  refine ev_iconst (pc := 455) (v := 1) dL_law_455 (by decide) ?_
  refine ev_iadd (pc := 456) dL_law_456 ?_
  refine ev_scl (pc := 457) hX hbz dL_law_457 (hb 1 (by decide)) ?_
  refine ev_Vi (pc := 458) dL_law_458 lk_L_60 cd_X12_clock ar_X12_clock ⟨by decide, rfl, rfl⟩ h2 (show 68 < 120 by decide) rfl rfl rfl rfl (Nat.le_of_ble_eq_true rfl) ⟨by decide, by decide⟩ ?_
  exact ev_icmp_eq (pc := 461) (tgt := 1104) dL_law_461 (by decide) (fun _ => kk I2 A2 J2 t2 hI2) (fun c => absurd rfl c)
set_option maxRecDepth 100000 in
set_option maxHeartbeats 4000000 in
theorem la_report {g : cw_G} {Iv : cw_IR} {b Ln : Nat} {xs : Nat → Int32} {Q : Option Value → cw_H → Prop} (hX : va_X b Ln xs g.2.1 g.2.1.heap) (hbz : b < cw_z g) (hOK : cw_OK_report g Iv) {x3 : Int32} (hb : ∀ j : Int32, j ∈ ([1, 2, 3, 4, 5, 6] : List Int32) → vp_in (x3 + j) Ln) {I A : Nat → Nat → Int32} {J : Nat → Nat → Int64} {t : Bool × Bool} (hI : Iv I A J t) (kk : ∀ I2 A2 J2 t2, Iv I2 A2 J2 t2 → Ev g mL_law 120 27563 1104 [some (.ref b), some (.ref (cw_z g + 0)), some (.ref (cw_z g + 68)), some (.int x3)] [] (hp g I2 A2 J2 t2) Q) : Ev g mL_law 120 27563 466 [some (.ref b), some (.ref (cw_z g + 0)), some (.ref (cw_z g + 68)), some (.int x3)] [] (hp g I A J t) Q := by
  obtain ⟨r, I1, A1, J1, t1, I2, A2, J2, t2, h1, h2, hI2⟩ := hOK (xs (x3 + 1).toNatClampNeg) (xs (x3 + 2).toNatClampNeg) (xs (x3 + 3).toNatClampNeg) (xs (x3 + 4).toNatClampNeg) (xs (x3 + 5).toNatClampNeg) I A J t hI
  refine ev_aload_n (pc := 466) dL_law_466 rfl ?_
  refine ev_aload_n (pc := 467) dL_law_467 rfl ?_
  refine ev_iload_n (pc := 468) dL_law_468 rfl ?_
  refine ev_iconst (pc := 469) (v := 1) dL_law_469 (by decide) ?_
  refine ev_iadd (pc := 470) dL_law_470 ?_
  refine ev_scl (pc := 471) hX hbz dL_law_471 (hb 1 (by decide)) ?_
  refine ev_aload_n (pc := 472) dL_law_472 rfl ?_
  refine ev_iload_n (pc := 473) dL_law_473 rfl ?_
  refine ev_iconst (pc := 474) (v := 2) dL_law_474 (by decide) ?_
  refine ev_iadd (pc := 475) dL_law_475 ?_
  refine ev_scl (pc := 476) hX hbz dL_law_476 (hb 2 (by decide)) ?_
  refine ev_aload_n (pc := 477) dL_law_477 rfl ?_
  refine ev_iload_n (pc := 478) dL_law_478 rfl ?_
  refine ev_iconst (pc := 479) (v := 3) dL_law_479 (by decide) ?_
  refine ev_iadd (pc := 480) dL_law_480 ?_
  refine ev_scl (pc := 481) hX hbz dL_law_481 (hb 3 (by decide)) ?_
  refine ev_aload_n (pc := 482) dL_law_482 rfl ?_
  refine ev_iload_n (pc := 483) dL_law_483 rfl ?_
  refine ev_iconst (pc := 484) (v := 4) dL_law_484 (by decide) ?_
  refine ev_iadd (pc := 485) dL_law_485 ?_
  refine ev_scl (pc := 486) hX hbz dL_law_486 (hb 4 (by decide)) ?_
  refine ev_aload_n (pc := 487) dL_law_487 rfl ?_
  refine ev_iload_n (pc := 488) dL_law_488 rfl ?_
  refine ev_iconst (pc := 489) (v := 5) dL_law_489 (by decide) ?_
  refine ev_iadd (pc := 490) dL_law_490 ?_
  refine ev_scl (pc := 491) hX hbz dL_law_491 (hb 5 (by decide)) ?_
  refine ev_Vi (pc := 492) dL_law_492 lk_L_61 cd_X11_report ar_X11_report ⟨by decide, rfl, rfl⟩ h1 (show 0 < 120 by decide) rfl rfl rfl rfl (Nat.le_of_ble_eq_true rfl) ⟨by decide, by decide⟩ ?_
  refine ev_aload_n (pc := 495) dL_law_495 rfl ?_
  refine ev_aload_n (pc := 496) dL_law_496 rfl ?_
  refine ev_iload_n (pc := 497) dL_law_497 rfl ?_
  refine ev_iconst (pc := 498) (v := 1) dL_law_498 (by decide) ?_
  refine ev_iadd (pc := 499) dL_law_499 ?_
  refine ev_scl (pc := 500) hX hbz dL_law_500 (hb 1 (by decide)) ?_
  refine ev_aload_n (pc := 501) dL_law_501 rfl ?_
  refine ev_iload_n (pc := 502) dL_law_502 rfl ?_
  refine ev_iconst (pc := 503) (v := 2) dL_law_503 (by decide) ?_
  refine ev_iadd (pc := 504) dL_law_504 ?_
  refine ev_scl (pc := 505) hX hbz dL_law_505 (hb 2 (by decide)) ?_
  refine ev_aload_n (pc := 506) dL_law_506 rfl ?_
  refine ev_iload_n (pc := 507) dL_law_507 rfl ?_
  refine ev_iconst (pc := 508) (v := 3) dL_law_508 (by decide) ?_
  refine ev_iadd (pc := 509) dL_law_509 ?_
  refine ev_scl (pc := 510) hX hbz dL_law_510 (hb 3 (by decide)) ?_
  refine ev_aload_n (pc := 511) dL_law_511 rfl ?_
  refine ev_iload_n (pc := 512) dL_law_512 rfl ?_
  refine ev_iconst (pc := 513) (v := 4) dL_law_513 (by decide) ?_
  refine ev_iadd (pc := 514) dL_law_514 ?_
  refine ev_scl (pc := 515) hX hbz dL_law_515 (hb 4 (by decide)) ?_
  refine ev_aload_n (pc := 516) dL_law_516 rfl ?_
  refine ev_iload_n (pc := 517) dL_law_517 rfl ?_
  refine ev_iconst (pc := 518) (v := 5) dL_law_518 (by decide) ?_
  refine ev_iadd (pc := 519) dL_law_519 ?_
  refine ev_scl (pc := 520) hX hbz dL_law_520 (hb 5 (by decide)) ?_
  refine ev_Vi (pc := 521) dL_law_521 lk_L_64 cd_X12_report ar_X12_report ⟨by decide, rfl, rfl⟩ h2 (show 68 < 120 by decide) rfl rfl rfl rfl (Nat.le_of_ble_eq_true rfl) ⟨by decide, by decide⟩ ?_
  exact ev_icmp_eq (pc := 524) (tgt := 1104) dL_law_524 (by decide) (fun _ => kk I2 A2 J2 t2 hI2) (fun c => absurd rfl c)
set_option maxRecDepth 100000 in
set_option maxHeartbeats 4000000 in
theorem la_notice {g : cw_G} {Iv : cw_IR} {b Ln : Nat} {xs : Nat → Int32} {Q : Option Value → cw_H → Prop} (hX : va_X b Ln xs g.2.1 g.2.1.heap) (hbz : b < cw_z g) (hOK : cw_OK_notice g Iv) {x3 : Int32} (hb : ∀ j : Int32, j ∈ ([1, 2, 3, 4, 5, 6] : List Int32) → vp_in (x3 + j) Ln) {I A : Nat → Nat → Int32} {J : Nat → Nat → Int64} {t : Bool × Bool} (hI : Iv I A J t) (kk : ∀ I2 A2 J2 t2, Iv I2 A2 J2 t2 → Ev g mL_law 120 27563 1104 [some (.ref b), some (.ref (cw_z g + 0)), some (.ref (cw_z g + 68)), some (.int x3)] [] (hp g I2 A2 J2 t2) Q) : Ev g mL_law 120 27563 529 [some (.ref b), some (.ref (cw_z g + 0)), some (.ref (cw_z g + 68)), some (.int x3)] [] (hp g I A J t) Q := by
  obtain ⟨r, I1, A1, J1, t1, I2, A2, J2, t2, h1, h2, hI2⟩ := hOK (xs (x3 + 1).toNatClampNeg) (xs (x3 + 2).toNatClampNeg) (xs (x3 + 3).toNatClampNeg) (xs (x3 + 4).toNatClampNeg) (xs (x3 + 5).toNatClampNeg) I A J t hI
  refine ev_aload_n (pc := 529) dL_law_529 rfl ?_
  refine ev_aload_n (pc := 530) dL_law_530 rfl ?_
  refine ev_iload_n (pc := 531) dL_law_531 rfl ?_
  refine ev_iconst (pc := 532) (v := 1) dL_law_532 (by decide) ?_
  refine ev_iadd (pc := 533) dL_law_533 ?_
  refine ev_scl (pc := 534) hX hbz dL_law_534 (hb 1 (by decide)) ?_
  refine ev_aload_n (pc := 535) dL_law_535 rfl ?_
  refine ev_iload_n (pc := 536) dL_law_536 rfl ?_
  refine ev_iconst (pc := 537) (v := 2) dL_law_537 (by decide) ?_
  refine ev_iadd (pc := 538) dL_law_538 ?_
  refine ev_scl (pc := 539) hX hbz dL_law_539 (hb 2 (by decide)) ?_
  refine ev_aload_n (pc := 540) dL_law_540 rfl ?_
  refine ev_iload_n (pc := 541) dL_law_541 rfl ?_
  refine ev_iconst (pc := 542) (v := 3) dL_law_542 (by decide) ?_
  refine ev_iadd (pc := 543) dL_law_543 ?_
  refine ev_scl (pc := 544) hX hbz dL_law_544 (hb 3 (by decide)) ?_
  refine ev_aload_n (pc := 545) dL_law_545 rfl ?_
  refine ev_iload_n (pc := 546) dL_law_546 rfl ?_
  refine ev_iconst (pc := 547) (v := 4) dL_law_547 (by decide) ?_
  refine ev_iadd (pc := 548) dL_law_548 ?_
  refine ev_scl (pc := 549) hX hbz dL_law_549 (hb 4 (by decide)) ?_
  refine ev_aload_n (pc := 550) dL_law_550 rfl ?_
  refine ev_iload_n (pc := 551) dL_law_551 rfl ?_
  refine ev_iconst (pc := 552) (v := 5) dL_law_552 (by decide) ?_
  refine ev_iadd (pc := 553) dL_law_553 ?_
  refine ev_scl (pc := 554) hX hbz dL_law_554 (hb 5 (by decide)) ?_
  refine ev_Vi (pc := 555) dL_law_555 lk_L_65 cd_X11_notice ar_X11_notice ⟨by decide, rfl, rfl⟩ h1 (show 0 < 120 by decide) rfl rfl rfl rfl (Nat.le_of_ble_eq_true rfl) ⟨by decide, by decide⟩ ?_
  refine ev_aload_n (pc := 558) dL_law_558 rfl ?_
  refine ev_aload_n (pc := 559) dL_law_559 rfl ?_
  refine ev_iload_n (pc := 560) dL_law_560 rfl ?_
  refine ev_iconst (pc := 561) (v := 1) dL_law_561 (by decide) ?_
  refine ev_iadd (pc := 562) dL_law_562 ?_
  refine ev_scl (pc := 563) hX hbz dL_law_563 (hb 1 (by decide)) ?_
  refine ev_aload_n (pc := 564) dL_law_564 rfl ?_
  refine ev_iload_n (pc := 565) dL_law_565 rfl ?_
  refine ev_iconst (pc := 566) (v := 2) dL_law_566 (by decide) ?_
  refine ev_iadd (pc := 567) dL_law_567 ?_
  refine ev_scl (pc := 568) hX hbz dL_law_568 (hb 2 (by decide)) ?_
  refine ev_aload_n (pc := 569) dL_law_569 rfl ?_
  refine ev_iload_n (pc := 570) dL_law_570 rfl ?_
  refine ev_iconst (pc := 571) (v := 3) dL_law_571 (by decide) ?_
  refine ev_iadd (pc := 572) dL_law_572 ?_
  refine ev_scl (pc := 573) hX hbz dL_law_573 (hb 3 (by decide)) ?_
  refine ev_aload_n (pc := 574) dL_law_574 rfl ?_
  refine ev_iload_n (pc := 575) dL_law_575 rfl ?_
  refine ev_iconst (pc := 576) (v := 4) dL_law_576 (by decide) ?_
  refine ev_iadd (pc := 577) dL_law_577 ?_
  refine ev_scl (pc := 578) hX hbz dL_law_578 (hb 4 (by decide)) ?_
  refine ev_aload_n (pc := 579) dL_law_579 rfl ?_
  refine ev_iload_n (pc := 580) dL_law_580 rfl ?_
  refine ev_iconst (pc := 581) (v := 5) dL_law_581 (by decide) ?_
  refine ev_iadd (pc := 582) dL_law_582 ?_
  refine ev_scl (pc := 583) hX hbz dL_law_583 (hb 5 (by decide)) ?_
  refine ev_Vi (pc := 584) dL_law_584 lk_L_68 cd_X12_notice ar_X12_notice ⟨by decide, rfl, rfl⟩ h2 (show 68 < 120 by decide) rfl rfl rfl rfl (Nat.le_of_ble_eq_true rfl) ⟨by decide, by decide⟩ ?_
  exact ev_icmp_eq (pc := 587) (tgt := 1104) dL_law_587 (by decide) (fun _ => kk I2 A2 J2 t2 hI2) (fun c => absurd rfl c)
set_option maxRecDepth 100000 in
set_option maxHeartbeats 4000000 in
theorem la_way {g : cw_G} {Iv : cw_IR} {b Ln : Nat} {xs : Nat → Int32} {Q : Option Value → cw_H → Prop} (hX : va_X b Ln xs g.2.1 g.2.1.heap) (hbz : b < cw_z g) (hOK : cw_OK_way g Iv) {x3 : Int32} (hb : ∀ j : Int32, j ∈ ([1, 2, 3, 4, 5, 6] : List Int32) → vp_in (x3 + j) Ln) {I A : Nat → Nat → Int32} {J : Nat → Nat → Int64} {t : Bool × Bool} (hI : Iv I A J t) (kk : ∀ I2 A2 J2 t2, Iv I2 A2 J2 t2 → Ev g mL_law 120 27563 1104 [some (.ref b), some (.ref (cw_z g + 0)), some (.ref (cw_z g + 68)), some (.int x3)] [] (hp g I2 A2 J2 t2) Q) : Ev g mL_law 120 27563 592 [some (.ref b), some (.ref (cw_z g + 0)), some (.ref (cw_z g + 68)), some (.int x3)] [] (hp g I A J t) Q := by
  obtain ⟨r, I1, A1, J1, t1, I2, A2, J2, t2, h1, h2, hI2⟩ := hOK (xs (x3 + 1).toNatClampNeg) (xs (x3 + 2).toNatClampNeg) (xs (x3 + 3).toNatClampNeg) I A J t hI
  refine ev_aload_n (pc := 592) dL_law_592 rfl ?_
  refine ev_aload_n (pc := 593) dL_law_593 rfl ?_
  refine ev_iload_n (pc := 594) dL_law_594 rfl ?_
  refine ev_iconst (pc := 595) (v := 1) dL_law_595 (by decide) ?_
  refine ev_iadd (pc := 596) dL_law_596 ?_
  refine ev_scl (pc := 597) hX hbz dL_law_597 (hb 1 (by decide)) ?_
  refine ev_aload_n (pc := 598) dL_law_598 rfl ?_
  refine ev_iload_n (pc := 599) dL_law_599 rfl ?_
  refine ev_iconst (pc := 600) (v := 2) dL_law_600 (by decide) ?_
  refine ev_iadd (pc := 601) dL_law_601 ?_
  refine ev_scl (pc := 602) hX hbz dL_law_602 (hb 2 (by decide)) ?_
  refine ev_aload_n (pc := 603) dL_law_603 rfl ?_
  refine ev_iload_n (pc := 604) dL_law_604 rfl ?_
  refine ev_iconst (pc := 605) (v := 3) dL_law_605 (by decide) ?_
  refine ev_iadd (pc := 606) dL_law_606 ?_
  refine ev_scl (pc := 607) hX hbz dL_law_607 (hb 3 (by decide)) ?_
  refine ev_Vi (pc := 608) dL_law_608 lk_L_69 cd_X11_way ar_X11_way ⟨by decide, rfl, rfl⟩ h1 (show 0 < 120 by decide) rfl rfl rfl rfl (Nat.le_of_ble_eq_true rfl) ⟨by decide, by decide⟩ ?_
  refine ev_aload_n (pc := 611) dL_law_611 rfl ?_
  refine ev_aload_n (pc := 612) dL_law_612 rfl ?_
  refine ev_iload_n (pc := 613) dL_law_613 rfl ?_
  refine ev_iconst (pc := 614) (v := 1) dL_law_614 (by decide) ?_
  refine ev_iadd (pc := 615) dL_law_615 ?_
  refine ev_scl (pc := 616) hX hbz dL_law_616 (hb 1 (by decide)) ?_
  refine ev_aload_n (pc := 617) dL_law_617 rfl ?_
  refine ev_iload_n (pc := 618) dL_law_618 rfl ?_
  refine ev_iconst (pc := 619) (v := 2) dL_law_619 (by decide) ?_
  refine ev_iadd (pc := 620) dL_law_620 ?_
  refine ev_scl (pc := 621) hX hbz dL_law_621 (hb 2 (by decide)) ?_
  refine ev_aload_n (pc := 622) dL_law_622 rfl ?_
  refine ev_iload_n (pc := 623) dL_law_623 rfl ?_
  refine ev_iconst (pc := 624) (v := 3) dL_law_624 (by decide) ?_
  refine ev_iadd (pc := 625) dL_law_625 ?_
  refine ev_scl (pc := 626) hX hbz dL_law_626 (hb 3 (by decide)) ?_
  refine ev_Vi (pc := 627) dL_law_627 lk_L_72 cd_X12_way ar_X12_way ⟨by decide, rfl, rfl⟩ h2 (show 68 < 120 by decide) rfl rfl rfl rfl (Nat.le_of_ble_eq_true rfl) ⟨by decide, by decide⟩ ?_
  exact ev_icmp_eq (pc := 630) (tgt := 1104) dL_law_630 (by decide) (fun _ => kk I2 A2 J2 t2 hI2) (fun c => absurd rfl c)
set_option maxRecDepth 100000 in
set_option maxHeartbeats 4000000 in
theorem la_sun {g : cw_G} {Iv : cw_IR} {b Ln : Nat} {xs : Nat → Int32} {Q : Option Value → cw_H → Prop} (hX : va_X b Ln xs g.2.1 g.2.1.heap) (hbz : b < cw_z g) (hOK : cw_OK_sun g Iv) {x3 : Int32} (hb : ∀ j : Int32, j ∈ ([1, 2, 3, 4, 5, 6] : List Int32) → vp_in (x3 + j) Ln) {bb : Int32} (hbb : bb = if xs (x3 + 1).toNatClampNeg = 0 then 0 else 1) {I A : Nat → Nat → Int32} {J : Nat → Nat → Int64} {t : Bool × Bool} (hI : Iv I A J t) (kk : ∀ I2 A2 J2 t2, Iv I2 A2 J2 t2 → Ev g mL_law 120 27563 1104 [some (.ref b), some (.ref (cw_z g + 0)), some (.ref (cw_z g + 68)), some (.int x3)] [] (hp g I2 A2 J2 t2) Q) : Ev g mL_law 120 27563 635 [some (.ref b), some (.ref (cw_z g + 0)), some (.ref (cw_z g + 68)), some (.int x3)] [] (hp g I A J t) Q := by
  obtain ⟨r, I1, A1, J1, t1, I2, A2, J2, t2, h1, h2, hI2⟩ := hOK bb (xs (x3 + 2).toNatClampNeg) (xs (x3 + 3).toNatClampNeg) (xs (x3 + 4).toNatClampNeg) I A J t hI
  refine ev_aload_n (pc := 635) dL_law_635 rfl ?_
  refine ev_aload_n (pc := 636) dL_law_636 rfl ?_
  refine ev_iload_n (pc := 637) dL_law_637 rfl ?_
  refine ev_iconst (pc := 638) (v := 1) dL_law_638 (by decide) ?_
  refine ev_iadd (pc := 639) dL_law_639 ?_
  refine ev_scl (pc := 640) hX hbz dL_law_640 (hb 1 (by decide)) ?_
  have hcut : bb = if xs (x3 + 1).toNatClampNeg = 0 then 0 else 1 := hbb
  refine ev_cut (pj := 649) (Lj := [some (.ref b), some (.ref (cw_z g + 0)), some (.ref (cw_z g + 68)), some (.int x3)]) (stj := .int bb :: .ref (cw_z g + 0) :: []) (σj := hp g I A J t) ?_ (fun hJ => ?_)
  rotate_left
  · refine ev_if_eq (pc := 641) (tgt := 648) dL_law_641 (by decide) (fun c => ?_) (fun c => ?_)
    · rw [if_pos c] at hcut
      subst hcut
      exact ev_iconst (pc := 648) (v := 0) dL_law_648 (by decide) hJ
    · rw [if_neg c] at hcut
      subst hcut
      refine ev_iconst (pc := 644) (v := 1) dL_law_644 (by decide) ?_
      exact ev_goto (pc := 645) (tgt := 649) dL_law_645 (by decide) hJ
  refine ev_aload_n (pc := 649) dL_law_649 rfl ?_
  refine ev_iload_n (pc := 650) dL_law_650 rfl ?_
  refine ev_iconst (pc := 651) (v := 2) dL_law_651 (by decide) ?_
  refine ev_iadd (pc := 652) dL_law_652 ?_
  refine ev_scl (pc := 653) hX hbz dL_law_653 (hb 2 (by decide)) ?_
  refine ev_aload_n (pc := 654) dL_law_654 rfl ?_
  refine ev_iload_n (pc := 655) dL_law_655 rfl ?_
  refine ev_iconst (pc := 656) (v := 3) dL_law_656 (by decide) ?_
  refine ev_iadd (pc := 657) dL_law_657 ?_
  refine ev_scl (pc := 658) hX hbz dL_law_658 (hb 3 (by decide)) ?_
  refine ev_aload_n (pc := 659) dL_law_659 rfl ?_
  refine ev_iload_n (pc := 660) dL_law_660 rfl ?_
  refine ev_iconst (pc := 661) (v := 4) dL_law_661 (by decide) ?_
  refine ev_iadd (pc := 662) dL_law_662 ?_
  refine ev_scl (pc := 663) hX hbz dL_law_663 (hb 4 (by decide)) ?_
  refine ev_Vi (pc := 664) dL_law_664 lk_L_73 cd_X11_sun ar_X11_sun ⟨by decide, rfl, rfl⟩ h1 (show 0 < 120 by decide) rfl rfl rfl rfl (Nat.le_of_ble_eq_true rfl) ⟨by decide, by decide⟩ ?_
  refine ev_aload_n (pc := 667) dL_law_667 rfl ?_
  refine ev_aload_n (pc := 668) dL_law_668 rfl ?_
  refine ev_iload_n (pc := 669) dL_law_669 rfl ?_
  refine ev_iconst (pc := 670) (v := 1) dL_law_670 (by decide) ?_
  refine ev_iadd (pc := 671) dL_law_671 ?_
  refine ev_scl (pc := 672) hX hbz dL_law_672 (hb 1 (by decide)) ?_
  have hcut : bb = if xs (x3 + 1).toNatClampNeg = 0 then 0 else 1 := hbb
  refine ev_cut (pj := 681) (Lj := [some (.ref b), some (.ref (cw_z g + 0)), some (.ref (cw_z g + 68)), some (.int x3)]) (stj := .int bb :: .ref (cw_z g + 68) :: [.int r]) (σj := hp g I1 A1 J1 t1) ?_ (fun hJ => ?_)
  rotate_left
  · refine ev_if_eq (pc := 673) (tgt := 680) dL_law_673 (by decide) (fun c => ?_) (fun c => ?_)
    · rw [if_pos c] at hcut
      subst hcut
      exact ev_iconst (pc := 680) (v := 0) dL_law_680 (by decide) hJ
    · rw [if_neg c] at hcut
      subst hcut
      refine ev_iconst (pc := 676) (v := 1) dL_law_676 (by decide) ?_
      exact ev_goto (pc := 677) (tgt := 681) dL_law_677 (by decide) hJ
  refine ev_aload_n (pc := 681) dL_law_681 rfl ?_
  refine ev_iload_n (pc := 682) dL_law_682 rfl ?_
  refine ev_iconst (pc := 683) (v := 2) dL_law_683 (by decide) ?_
  refine ev_iadd (pc := 684) dL_law_684 ?_
  refine ev_scl (pc := 685) hX hbz dL_law_685 (hb 2 (by decide)) ?_
  refine ev_aload_n (pc := 686) dL_law_686 rfl ?_
  refine ev_iload_n (pc := 687) dL_law_687 rfl ?_
  refine ev_iconst (pc := 688) (v := 3) dL_law_688 (by decide) ?_
  refine ev_iadd (pc := 689) dL_law_689 ?_
  refine ev_scl (pc := 690) hX hbz dL_law_690 (hb 3 (by decide)) ?_
  refine ev_aload_n (pc := 691) dL_law_691 rfl ?_
  refine ev_iload_n (pc := 692) dL_law_692 rfl ?_
  refine ev_iconst (pc := 693) (v := 4) dL_law_693 (by decide) ?_
  refine ev_iadd (pc := 694) dL_law_694 ?_
  refine ev_scl (pc := 695) hX hbz dL_law_695 (hb 4 (by decide)) ?_
  refine ev_Vi (pc := 696) dL_law_696 lk_L_77 cd_X12_sun ar_X12_sun ⟨by decide, rfl, rfl⟩ h2 (show 68 < 120 by decide) rfl rfl rfl rfl (Nat.le_of_ble_eq_true rfl) ⟨by decide, by decide⟩ ?_
  exact ev_icmp_eq (pc := 699) (tgt := 1104) dL_law_699 (by decide) (fun _ => kk I2 A2 J2 t2 hI2) (fun c => absurd rfl c)
set_option maxRecDepth 100000 in
set_option maxHeartbeats 4000000 in
theorem la_correction {g : cw_G} {Iv : cw_IR} {b Ln : Nat} {xs : Nat → Int32} {Q : Option Value → cw_H → Prop} (hX : va_X b Ln xs g.2.1 g.2.1.heap) (hbz : b < cw_z g) (hOK : cw_OK_correction g Iv) {x3 : Int32} (hb : ∀ j : Int32, j ∈ ([1, 2, 3, 4, 5, 6] : List Int32) → vp_in (x3 + j) Ln) {I A : Nat → Nat → Int32} {J : Nat → Nat → Int64} {t : Bool × Bool} (hI : Iv I A J t) (kk : ∀ I2 A2 J2 t2, Iv I2 A2 J2 t2 → Ev g mL_law 120 27563 1104 [some (.ref b), some (.ref (cw_z g + 0)), some (.ref (cw_z g + 68)), some (.int x3)] [] (hp g I2 A2 J2 t2) Q) : Ev g mL_law 120 27563 704 [some (.ref b), some (.ref (cw_z g + 0)), some (.ref (cw_z g + 68)), some (.int x3)] [] (hp g I A J t) Q := by
  obtain ⟨r, I1, A1, J1, t1, I2, A2, J2, t2, h1, h2, hI2⟩ := hOK (xs (x3 + 1).toNatClampNeg) (xs (x3 + 2).toNatClampNeg) (xs (x3 + 3).toNatClampNeg) (xs (x3 + 4).toNatClampNeg) I A J t hI
  refine ev_aload_n (pc := 704) dL_law_704 rfl ?_
  refine ev_aload_n (pc := 705) dL_law_705 rfl ?_
  refine ev_iload_n (pc := 706) dL_law_706 rfl ?_
  refine ev_iconst (pc := 707) (v := 1) dL_law_707 (by decide) ?_
  refine ev_iadd (pc := 708) dL_law_708 ?_
  refine ev_scl (pc := 709) hX hbz dL_law_709 (hb 1 (by decide)) ?_
  refine ev_aload_n (pc := 710) dL_law_710 rfl ?_
  refine ev_iload_n (pc := 711) dL_law_711 rfl ?_
  refine ev_iconst (pc := 712) (v := 2) dL_law_712 (by decide) ?_
  refine ev_iadd (pc := 713) dL_law_713 ?_
  refine ev_scl (pc := 714) hX hbz dL_law_714 (hb 2 (by decide)) ?_
  refine ev_aload_n (pc := 715) dL_law_715 rfl ?_
  refine ev_iload_n (pc := 716) dL_law_716 rfl ?_
  refine ev_iconst (pc := 717) (v := 3) dL_law_717 (by decide) ?_
  refine ev_iadd (pc := 718) dL_law_718 ?_
  refine ev_scl (pc := 719) hX hbz dL_law_719 (hb 3 (by decide)) ?_
  refine ev_aload_n (pc := 720) dL_law_720 rfl ?_
  refine ev_iload_n (pc := 721) dL_law_721 rfl ?_
  refine ev_iconst (pc := 722) (v := 4) dL_law_722 (by decide) ?_
  refine ev_iadd (pc := 723) dL_law_723 ?_
  refine ev_scl (pc := 724) hX hbz dL_law_724 (hb 4 (by decide)) ?_
  refine ev_Vi (pc := 725) dL_law_725 lk_L_78 cd_X11_correction ar_X11_correction ⟨by decide, rfl, rfl⟩ h1 (show 0 < 120 by decide) rfl rfl rfl rfl (Nat.le_of_ble_eq_true rfl) ⟨by decide, by decide⟩ ?_
  refine ev_aload_n (pc := 728) dL_law_728 rfl ?_
  refine ev_aload_n (pc := 729) dL_law_729 rfl ?_
  refine ev_iload_n (pc := 730) dL_law_730 rfl ?_
  refine ev_iconst (pc := 731) (v := 1) dL_law_731 (by decide) ?_
  refine ev_iadd (pc := 732) dL_law_732 ?_
  refine ev_scl (pc := 733) hX hbz dL_law_733 (hb 1 (by decide)) ?_
  refine ev_aload_n (pc := 734) dL_law_734 rfl ?_
  refine ev_iload_n (pc := 735) dL_law_735 rfl ?_
  refine ev_iconst (pc := 736) (v := 2) dL_law_736 (by decide) ?_
  refine ev_iadd (pc := 737) dL_law_737 ?_
  refine ev_scl (pc := 738) hX hbz dL_law_738 (hb 2 (by decide)) ?_
  refine ev_aload_n (pc := 739) dL_law_739 rfl ?_
  refine ev_iload_n (pc := 740) dL_law_740 rfl ?_
  refine ev_iconst (pc := 741) (v := 3) dL_law_741 (by decide) ?_
  refine ev_iadd (pc := 742) dL_law_742 ?_
  refine ev_scl (pc := 743) hX hbz dL_law_743 (hb 3 (by decide)) ?_
  refine ev_aload_n (pc := 744) dL_law_744 rfl ?_
  refine ev_iload_n (pc := 745) dL_law_745 rfl ?_
  refine ev_iconst (pc := 746) (v := 4) dL_law_746 (by decide) ?_
  refine ev_iadd (pc := 747) dL_law_747 ?_
  refine ev_scl (pc := 748) hX hbz dL_law_748 (hb 4 (by decide)) ?_
  refine ev_Vi (pc := 749) dL_law_749 lk_L_82 cd_X12_correction ar_X12_correction ⟨by decide, rfl, rfl⟩ h2 (show 68 < 120 by decide) rfl rfl rfl rfl (Nat.le_of_ble_eq_true rfl) ⟨by decide, by decide⟩ ?_
  exact ev_icmp_eq (pc := 752) (tgt := 1104) dL_law_752 (by decide) (fun _ => kk I2 A2 J2 t2 hI2) (fun c => absurd rfl c)
set_option maxRecDepth 100000 in
set_option maxHeartbeats 4000000 in
theorem la_strength {g : cw_G} {Iv : cw_IR} {b Ln : Nat} {xs : Nat → Int32} {Q : Option Value → cw_H → Prop} (hX : va_X b Ln xs g.2.1 g.2.1.heap) (hbz : b < cw_z g) (hOK : cw_OK_strength g Iv) {x3 : Int32} (hb : ∀ j : Int32, j ∈ ([1, 2, 3, 4, 5, 6] : List Int32) → vp_in (x3 + j) Ln) {I A : Nat → Nat → Int32} {J : Nat → Nat → Int64} {t : Bool × Bool} (hI : Iv I A J t) (kk : ∀ I2 A2 J2 t2, Iv I2 A2 J2 t2 → Ev g mL_law 120 27563 1104 [some (.ref b), some (.ref (cw_z g + 0)), some (.ref (cw_z g + 68)), some (.int x3)] [] (hp g I2 A2 J2 t2) Q) : Ev g mL_law 120 27563 757 [some (.ref b), some (.ref (cw_z g + 0)), some (.ref (cw_z g + 68)), some (.int x3)] [] (hp g I A J t) Q := by
  obtain ⟨r, I1, A1, J1, t1, I2, A2, J2, t2, h1, h2, hI2⟩ := hOK (xs (x3 + 1).toNatClampNeg) (xs (x3 + 2).toNatClampNeg) (xs (x3 + 3).toNatClampNeg) (xs (x3 + 4).toNatClampNeg) (xs (x3 + 5).toNatClampNeg) (xs (x3 + 6).toNatClampNeg) I A J t hI
  refine ev_aload_n (pc := 757) dL_law_757 rfl ?_
  refine ev_aload_n (pc := 758) dL_law_758 rfl ?_
  refine ev_iload_n (pc := 759) dL_law_759 rfl ?_
  refine ev_iconst (pc := 760) (v := 1) dL_law_760 (by decide) ?_
  refine ev_iadd (pc := 761) dL_law_761 ?_
  refine ev_scl (pc := 762) hX hbz dL_law_762 (hb 1 (by decide)) ?_
  refine ev_aload_n (pc := 763) dL_law_763 rfl ?_
  refine ev_iload_n (pc := 764) dL_law_764 rfl ?_
  refine ev_iconst (pc := 765) (v := 2) dL_law_765 (by decide) ?_
  refine ev_iadd (pc := 766) dL_law_766 ?_
  refine ev_scl (pc := 767) hX hbz dL_law_767 (hb 2 (by decide)) ?_
  refine ev_aload_n (pc := 768) dL_law_768 rfl ?_
  refine ev_iload_n (pc := 769) dL_law_769 rfl ?_
  refine ev_iconst (pc := 770) (v := 3) dL_law_770 (by decide) ?_
  refine ev_iadd (pc := 771) dL_law_771 ?_
  refine ev_scl (pc := 772) hX hbz dL_law_772 (hb 3 (by decide)) ?_
  refine ev_aload_n (pc := 773) dL_law_773 rfl ?_
  refine ev_iload_n (pc := 774) dL_law_774 rfl ?_
  refine ev_iconst (pc := 775) (v := 4) dL_law_775 (by decide) ?_
  refine ev_iadd (pc := 776) dL_law_776 ?_
  refine ev_scl (pc := 777) hX hbz dL_law_777 (hb 4 (by decide)) ?_
  refine ev_aload_n (pc := 778) dL_law_778 rfl ?_
  refine ev_iload_n (pc := 779) dL_law_779 rfl ?_
  refine ev_iconst (pc := 780) (v := 5) dL_law_780 (by decide) ?_
  refine ev_iadd (pc := 781) dL_law_781 ?_
  refine ev_scl (pc := 782) hX hbz dL_law_782 (hb 5 (by decide)) ?_
  refine ev_aload_n (pc := 783) dL_law_783 rfl ?_
  refine ev_iload_n (pc := 784) dL_law_784 rfl ?_
  refine ev_bipush (pc := 785) (v := 6) dL_law_785 (by decide) ?_
  refine ev_iadd (pc := 787) dL_law_787 ?_
  refine ev_scl (pc := 788) hX hbz dL_law_788 (hb 6 (by decide)) ?_
  refine ev_Vi (pc := 789) dL_law_789 lk_L_83 cd_X11_strength ar_X11_strength ⟨by decide, rfl, rfl⟩ h1 (show 0 < 120 by decide) rfl rfl rfl rfl (Nat.le_of_ble_eq_true rfl) ⟨by decide, by decide⟩ ?_
  refine ev_aload_n (pc := 792) dL_law_792 rfl ?_
  refine ev_aload_n (pc := 793) dL_law_793 rfl ?_
  refine ev_iload_n (pc := 794) dL_law_794 rfl ?_
  refine ev_iconst (pc := 795) (v := 1) dL_law_795 (by decide) ?_
  refine ev_iadd (pc := 796) dL_law_796 ?_
  refine ev_scl (pc := 797) hX hbz dL_law_797 (hb 1 (by decide)) ?_
  refine ev_aload_n (pc := 798) dL_law_798 rfl ?_
  refine ev_iload_n (pc := 799) dL_law_799 rfl ?_
  refine ev_iconst (pc := 800) (v := 2) dL_law_800 (by decide) ?_
  refine ev_iadd (pc := 801) dL_law_801 ?_
  refine ev_scl (pc := 802) hX hbz dL_law_802 (hb 2 (by decide)) ?_
  refine ev_aload_n (pc := 803) dL_law_803 rfl ?_
  refine ev_iload_n (pc := 804) dL_law_804 rfl ?_
  refine ev_iconst (pc := 805) (v := 3) dL_law_805 (by decide) ?_
  refine ev_iadd (pc := 806) dL_law_806 ?_
  refine ev_scl (pc := 807) hX hbz dL_law_807 (hb 3 (by decide)) ?_
  refine ev_aload_n (pc := 808) dL_law_808 rfl ?_
  refine ev_iload_n (pc := 809) dL_law_809 rfl ?_
  refine ev_iconst (pc := 810) (v := 4) dL_law_810 (by decide) ?_
  refine ev_iadd (pc := 811) dL_law_811 ?_
  refine ev_scl (pc := 812) hX hbz dL_law_812 (hb 4 (by decide)) ?_
  refine ev_aload_n (pc := 813) dL_law_813 rfl ?_
  refine ev_iload_n (pc := 814) dL_law_814 rfl ?_
  refine ev_iconst (pc := 815) (v := 5) dL_law_815 (by decide) ?_
  refine ev_iadd (pc := 816) dL_law_816 ?_
  refine ev_scl (pc := 817) hX hbz dL_law_817 (hb 5 (by decide)) ?_
  refine ev_aload_n (pc := 818) dL_law_818 rfl ?_
  refine ev_iload_n (pc := 819) dL_law_819 rfl ?_
  refine ev_bipush (pc := 820) (v := 6) dL_law_820 (by decide) ?_
  refine ev_iadd (pc := 822) dL_law_822 ?_
  refine ev_scl (pc := 823) hX hbz dL_law_823 (hb 6 (by decide)) ?_
  refine ev_Vi (pc := 824) dL_law_824 lk_L_87 cd_X12_strength ar_X12_strength ⟨by decide, rfl, rfl⟩ h2 (show 68 < 120 by decide) rfl rfl rfl rfl (Nat.le_of_ble_eq_true rfl) ⟨by decide, by decide⟩ ?_
  exact ev_icmp_eq (pc := 827) (tgt := 1104) dL_law_827 (by decide) (fun _ => kk I2 A2 J2 t2 hI2) (fun c => absurd rfl c)
set_option maxRecDepth 100000 in
set_option maxHeartbeats 4000000 in
theorem la_yields {g : cw_G} {Iv : cw_IR} {b Ln : Nat} {xs : Nat → Int32} {Q : Option Value → cw_H → Prop} (hX : va_X b Ln xs g.2.1 g.2.1.heap) (hbz : b < cw_z g) (hOK : cw_OK_yields g Iv) {x3 : Int32} (hb : ∀ j : Int32, j ∈ ([1, 2, 3, 4, 5, 6] : List Int32) → vp_in (x3 + j) Ln) {I A : Nat → Nat → Int32} {J : Nat → Nat → Int64} {t : Bool × Bool} (hI : Iv I A J t) (kk : ∀ I2 A2 J2 t2, Iv I2 A2 J2 t2 → Ev g mL_law 120 27563 1104 [some (.ref b), some (.ref (cw_z g + 0)), some (.ref (cw_z g + 68)), some (.int x3)] [] (hp g I2 A2 J2 t2) Q) : Ev g mL_law 120 27563 832 [some (.ref b), some (.ref (cw_z g + 0)), some (.ref (cw_z g + 68)), some (.int x3)] [] (hp g I A J t) Q := by
  obtain ⟨r, I1, A1, J1, t1, I2, A2, J2, t2, h1, h2, hI2⟩ := hOK (xs (x3 + 1).toNatClampNeg) (xs (x3 + 2).toNatClampNeg) (xs (x3 + 3).toNatClampNeg) (xs (x3 + 4).toNatClampNeg) (xs (x3 + 5).toNatClampNeg) (xs (x3 + 6).toNatClampNeg) I A J t hI
  refine ev_aload_n (pc := 832) dL_law_832 rfl ?_
  refine ev_aload_n (pc := 833) dL_law_833 rfl ?_
  refine ev_iload_n (pc := 834) dL_law_834 rfl ?_
  refine ev_iconst (pc := 835) (v := 1) dL_law_835 (by decide) ?_
  refine ev_iadd (pc := 836) dL_law_836 ?_
  refine ev_scl (pc := 837) hX hbz dL_law_837 (hb 1 (by decide)) ?_
  refine ev_aload_n (pc := 838) dL_law_838 rfl ?_
  refine ev_iload_n (pc := 839) dL_law_839 rfl ?_
  refine ev_iconst (pc := 840) (v := 2) dL_law_840 (by decide) ?_
  refine ev_iadd (pc := 841) dL_law_841 ?_
  refine ev_scl (pc := 842) hX hbz dL_law_842 (hb 2 (by decide)) ?_
  refine ev_aload_n (pc := 843) dL_law_843 rfl ?_
  refine ev_iload_n (pc := 844) dL_law_844 rfl ?_
  refine ev_iconst (pc := 845) (v := 3) dL_law_845 (by decide) ?_
  refine ev_iadd (pc := 846) dL_law_846 ?_
  refine ev_scl (pc := 847) hX hbz dL_law_847 (hb 3 (by decide)) ?_
  refine ev_aload_n (pc := 848) dL_law_848 rfl ?_
  refine ev_iload_n (pc := 849) dL_law_849 rfl ?_
  refine ev_iconst (pc := 850) (v := 4) dL_law_850 (by decide) ?_
  refine ev_iadd (pc := 851) dL_law_851 ?_
  refine ev_scl (pc := 852) hX hbz dL_law_852 (hb 4 (by decide)) ?_
  refine ev_aload_n (pc := 853) dL_law_853 rfl ?_
  refine ev_iload_n (pc := 854) dL_law_854 rfl ?_
  refine ev_iconst (pc := 855) (v := 5) dL_law_855 (by decide) ?_
  refine ev_iadd (pc := 856) dL_law_856 ?_
  refine ev_scl (pc := 857) hX hbz dL_law_857 (hb 5 (by decide)) ?_
  refine ev_aload_n (pc := 858) dL_law_858 rfl ?_
  refine ev_iload_n (pc := 859) dL_law_859 rfl ?_
  refine ev_bipush (pc := 860) (v := 6) dL_law_860 (by decide) ?_
  refine ev_iadd (pc := 862) dL_law_862 ?_
  refine ev_scl (pc := 863) hX hbz dL_law_863 (hb 6 (by decide)) ?_
  refine ev_Vi (pc := 864) dL_law_864 lk_L_88 cd_X11_yields ar_X11_yields ⟨by decide, rfl, rfl⟩ h1 (show 0 < 120 by decide) rfl rfl rfl rfl (Nat.le_of_ble_eq_true rfl) ⟨by decide, by decide⟩ ?_
  refine ev_aload_n (pc := 867) dL_law_867 rfl ?_
  refine ev_aload_n (pc := 868) dL_law_868 rfl ?_
  refine ev_iload_n (pc := 869) dL_law_869 rfl ?_
  refine ev_iconst (pc := 870) (v := 1) dL_law_870 (by decide) ?_
  refine ev_iadd (pc := 871) dL_law_871 ?_
  refine ev_scl (pc := 872) hX hbz dL_law_872 (hb 1 (by decide)) ?_
  refine ev_aload_n (pc := 873) dL_law_873 rfl ?_
  refine ev_iload_n (pc := 874) dL_law_874 rfl ?_
  refine ev_iconst (pc := 875) (v := 2) dL_law_875 (by decide) ?_
  refine ev_iadd (pc := 876) dL_law_876 ?_
  refine ev_scl (pc := 877) hX hbz dL_law_877 (hb 2 (by decide)) ?_
  refine ev_aload_n (pc := 878) dL_law_878 rfl ?_
  refine ev_iload_n (pc := 879) dL_law_879 rfl ?_
  refine ev_iconst (pc := 880) (v := 3) dL_law_880 (by decide) ?_
  refine ev_iadd (pc := 881) dL_law_881 ?_
  refine ev_scl (pc := 882) hX hbz dL_law_882 (hb 3 (by decide)) ?_
  refine ev_aload_n (pc := 883) dL_law_883 rfl ?_
  refine ev_iload_n (pc := 884) dL_law_884 rfl ?_
  refine ev_iconst (pc := 885) (v := 4) dL_law_885 (by decide) ?_
  refine ev_iadd (pc := 886) dL_law_886 ?_
  refine ev_scl (pc := 887) hX hbz dL_law_887 (hb 4 (by decide)) ?_
  refine ev_aload_n (pc := 888) dL_law_888 rfl ?_
  refine ev_iload_n (pc := 889) dL_law_889 rfl ?_
  refine ev_iconst (pc := 890) (v := 5) dL_law_890 (by decide) ?_
  refine ev_iadd (pc := 891) dL_law_891 ?_
  refine ev_scl (pc := 892) hX hbz dL_law_892 (hb 5 (by decide)) ?_
  refine ev_aload_n (pc := 893) dL_law_893 rfl ?_
  refine ev_iload_n (pc := 894) dL_law_894 rfl ?_
  refine ev_bipush (pc := 895) (v := 6) dL_law_895 (by decide) ?_
  refine ev_iadd (pc := 897) dL_law_897 ?_
  refine ev_scl (pc := 898) hX hbz dL_law_898 (hb 6 (by decide)) ?_
  refine ev_Vi (pc := 899) dL_law_899 lk_L_91 cd_X12_yields ar_X12_yields ⟨by decide, rfl, rfl⟩ h2 (show 68 < 120 by decide) rfl rfl rfl rfl (Nat.le_of_ble_eq_true rfl) ⟨by decide, by decide⟩ ?_
  exact ev_icmp_eq (pc := 902) (tgt := 1104) dL_law_902 (by decide) (fun _ => kk I2 A2 J2 t2 hI2) (fun c => absurd rfl c)
set_option maxRecDepth 100000 in
set_option maxHeartbeats 4000000 in
theorem la_rule {g : cw_G} {Iv : cw_IR} {b Ln : Nat} {xs : Nat → Int32} {Q : Option Value → cw_H → Prop} (hX : va_X b Ln xs g.2.1 g.2.1.heap) (hbz : b < cw_z g) (hOK : cw_OK_rule g Iv) {x3 : Int32} (hb : ∀ j : Int32, j ∈ ([1, 2, 3, 4, 5, 6] : List Int32) → vp_in (x3 + j) Ln) {I A : Nat → Nat → Int32} {J : Nat → Nat → Int64} {t : Bool × Bool} (hI : Iv I A J t) (kk : ∀ I2 A2 J2 t2, Iv I2 A2 J2 t2 → Ev g mL_law 120 27563 1104 [some (.ref b), some (.ref (cw_z g + 0)), some (.ref (cw_z g + 68)), some (.int x3)] [] (hp g I2 A2 J2 t2) Q) : Ev g mL_law 120 27563 907 [some (.ref b), some (.ref (cw_z g + 0)), some (.ref (cw_z g + 68)), some (.int x3)] [] (hp g I A J t) Q := by
  obtain ⟨r, I1, A1, J1, t1, I2, A2, J2, t2, h1, h2, hI2⟩ := hOK (xs (x3 + 1).toNatClampNeg) (xs (x3 + 2).toNatClampNeg) (xs (x3 + 3).toNatClampNeg) (xs (x3 + 4).toNatClampNeg) (xs (x3 + 5).toNatClampNeg) (xs (x3 + 6).toNatClampNeg) I A J t hI
  refine ev_aload_n (pc := 907) dL_law_907 rfl ?_
  refine ev_aload_n (pc := 908) dL_law_908 rfl ?_
  refine ev_iload_n (pc := 909) dL_law_909 rfl ?_
  refine ev_iconst (pc := 910) (v := 1) dL_law_910 (by decide) ?_
  refine ev_iadd (pc := 911) dL_law_911 ?_
  refine ev_scl (pc := 912) hX hbz dL_law_912 (hb 1 (by decide)) ?_
  refine ev_aload_n (pc := 913) dL_law_913 rfl ?_
  refine ev_iload_n (pc := 914) dL_law_914 rfl ?_
  refine ev_iconst (pc := 915) (v := 2) dL_law_915 (by decide) ?_
  refine ev_iadd (pc := 916) dL_law_916 ?_
  refine ev_scl (pc := 917) hX hbz dL_law_917 (hb 2 (by decide)) ?_
  refine ev_aload_n (pc := 918) dL_law_918 rfl ?_
  refine ev_iload_n (pc := 919) dL_law_919 rfl ?_
  refine ev_iconst (pc := 920) (v := 3) dL_law_920 (by decide) ?_
  refine ev_iadd (pc := 921) dL_law_921 ?_
  refine ev_scl (pc := 922) hX hbz dL_law_922 (hb 3 (by decide)) ?_
  refine ev_aload_n (pc := 923) dL_law_923 rfl ?_
  refine ev_iload_n (pc := 924) dL_law_924 rfl ?_
  refine ev_iconst (pc := 925) (v := 4) dL_law_925 (by decide) ?_
  refine ev_iadd (pc := 926) dL_law_926 ?_
  refine ev_scl (pc := 927) hX hbz dL_law_927 (hb 4 (by decide)) ?_
  refine ev_aload_n (pc := 928) dL_law_928 rfl ?_
  refine ev_iload_n (pc := 929) dL_law_929 rfl ?_
  refine ev_iconst (pc := 930) (v := 5) dL_law_930 (by decide) ?_
  refine ev_iadd (pc := 931) dL_law_931 ?_
  refine ev_scl (pc := 932) hX hbz dL_law_932 (hb 5 (by decide)) ?_
  refine ev_aload_n (pc := 933) dL_law_933 rfl ?_
  refine ev_iload_n (pc := 934) dL_law_934 rfl ?_
  refine ev_bipush (pc := 935) (v := 6) dL_law_935 (by decide) ?_
  refine ev_iadd (pc := 937) dL_law_937 ?_
  refine ev_scl (pc := 938) hX hbz dL_law_938 (hb 6 (by decide)) ?_
  refine ev_Vi (pc := 939) dL_law_939 lk_L_92 cd_X11_rule ar_X11_rule ⟨by decide, rfl, rfl⟩ h1 (show 0 < 120 by decide) rfl rfl rfl rfl (Nat.le_of_ble_eq_true rfl) ⟨by decide, by decide⟩ ?_
  refine ev_aload_n (pc := 942) dL_law_942 rfl ?_
  refine ev_aload_n (pc := 943) dL_law_943 rfl ?_
  refine ev_iload_n (pc := 944) dL_law_944 rfl ?_
  refine ev_iconst (pc := 945) (v := 1) dL_law_945 (by decide) ?_
  refine ev_iadd (pc := 946) dL_law_946 ?_
  refine ev_scl (pc := 947) hX hbz dL_law_947 (hb 1 (by decide)) ?_
  refine ev_aload_n (pc := 948) dL_law_948 rfl ?_
  refine ev_iload_n (pc := 949) dL_law_949 rfl ?_
  refine ev_iconst (pc := 950) (v := 2) dL_law_950 (by decide) ?_
  refine ev_iadd (pc := 951) dL_law_951 ?_
  refine ev_scl (pc := 952) hX hbz dL_law_952 (hb 2 (by decide)) ?_
  refine ev_aload_n (pc := 953) dL_law_953 rfl ?_
  refine ev_iload_n (pc := 954) dL_law_954 rfl ?_
  refine ev_iconst (pc := 955) (v := 3) dL_law_955 (by decide) ?_
  refine ev_iadd (pc := 956) dL_law_956 ?_
  refine ev_scl (pc := 957) hX hbz dL_law_957 (hb 3 (by decide)) ?_
  refine ev_aload_n (pc := 958) dL_law_958 rfl ?_
  refine ev_iload_n (pc := 959) dL_law_959 rfl ?_
  refine ev_iconst (pc := 960) (v := 4) dL_law_960 (by decide) ?_
  refine ev_iadd (pc := 961) dL_law_961 ?_
  refine ev_scl (pc := 962) hX hbz dL_law_962 (hb 4 (by decide)) ?_
  refine ev_aload_n (pc := 963) dL_law_963 rfl ?_
  refine ev_iload_n (pc := 964) dL_law_964 rfl ?_
  refine ev_iconst (pc := 965) (v := 5) dL_law_965 (by decide) ?_
  refine ev_iadd (pc := 966) dL_law_966 ?_
  refine ev_scl (pc := 967) hX hbz dL_law_967 (hb 5 (by decide)) ?_
  refine ev_aload_n (pc := 968) dL_law_968 rfl ?_
  refine ev_iload_n (pc := 969) dL_law_969 rfl ?_
  refine ev_bipush (pc := 970) (v := 6) dL_law_970 (by decide) ?_
  refine ev_iadd (pc := 972) dL_law_972 ?_
  refine ev_scl (pc := 973) hX hbz dL_law_973 (hb 6 (by decide)) ?_
  refine ev_Vi (pc := 974) dL_law_974 lk_L_95 cd_X12_rule ar_X12_rule ⟨by decide, rfl, rfl⟩ h2 (show 68 < 120 by decide) rfl rfl rfl rfl (Nat.le_of_ble_eq_true rfl) ⟨by decide, by decide⟩ ?_
  exact ev_icmp_eq (pc := 977) (tgt := 1104) dL_law_977 (by decide) (fun _ => kk I2 A2 J2 t2 hI2) (fun c => absurd rfl c)
set_option maxRecDepth 100000 in
set_option maxHeartbeats 4000000 in
theorem la_schedule {g : cw_G} {Iv : cw_IR} {b Ln : Nat} {xs : Nat → Int32} {Q : Option Value → cw_H → Prop} (hX : va_X b Ln xs g.2.1 g.2.1.heap) (hbz : b < cw_z g) (hOK : cw_OK_schedule g Iv) {x3 : Int32} (hb : ∀ j : Int32, j ∈ ([1, 2, 3, 4, 5, 6] : List Int32) → vp_in (x3 + j) Ln) {I A : Nat → Nat → Int32} {J : Nat → Nat → Int64} {t : Bool × Bool} (hI : Iv I A J t) (kk : ∀ I2 A2 J2 t2, Iv I2 A2 J2 t2 → Ev g mL_law 120 27563 1104 [some (.ref b), some (.ref (cw_z g + 0)), some (.ref (cw_z g + 68)), some (.int x3)] [] (hp g I2 A2 J2 t2) Q) : Ev g mL_law 120 27563 982 [some (.ref b), some (.ref (cw_z g + 0)), some (.ref (cw_z g + 68)), some (.int x3)] [] (hp g I A J t) Q := by
  obtain ⟨r, I1, A1, J1, t1, I2, A2, J2, t2, h1, h2, hI2⟩ := hOK (xs (x3 + 1).toNatClampNeg) (xs (x3 + 2).toNatClampNeg) I A J t hI
  refine ev_aload_n (pc := 982) dL_law_982 rfl ?_
  refine ev_aload_n (pc := 983) dL_law_983 rfl ?_
  refine ev_iload_n (pc := 984) dL_law_984 rfl ?_
  refine ev_iconst (pc := 985) (v := 1) dL_law_985 (by decide) ?_
  refine ev_iadd (pc := 986) dL_law_986 ?_
  refine ev_scl (pc := 987) hX hbz dL_law_987 (hb 1 (by decide)) ?_
  refine ev_aload_n (pc := 988) dL_law_988 rfl ?_
  refine ev_iload_n (pc := 989) dL_law_989 rfl ?_
  refine ev_iconst (pc := 990) (v := 2) dL_law_990 (by decide) ?_
  refine ev_iadd (pc := 991) dL_law_991 ?_
  refine ev_scl (pc := 992) hX hbz dL_law_992 (hb 2 (by decide)) ?_
  refine ev_Vi (pc := 993) dL_law_993 lk_L_96 cd_X11_schedule ar_X11_schedule ⟨by decide, rfl, rfl⟩ h1 (show 0 < 120 by decide) rfl rfl rfl rfl (Nat.le_of_ble_eq_true rfl) ⟨by decide, by decide⟩ ?_
  refine ev_aload_n (pc := 996) dL_law_996 rfl ?_
  refine ev_aload_n (pc := 997) dL_law_997 rfl ?_
  refine ev_iload_n (pc := 998) dL_law_998 rfl ?_
  refine ev_iconst (pc := 999) (v := 1) dL_law_999 (by decide) ?_
  refine ev_iadd (pc := 1000) dL_law_1000 ?_
  refine ev_scl (pc := 1001) hX hbz dL_law_1001 (hb 1 (by decide)) ?_
  refine ev_aload_n (pc := 1002) dL_law_1002 rfl ?_
  refine ev_iload_n (pc := 1003) dL_law_1003 rfl ?_
  refine ev_iconst (pc := 1004) (v := 2) dL_law_1004 (by decide) ?_
  refine ev_iadd (pc := 1005) dL_law_1005 ?_
  refine ev_scl (pc := 1006) hX hbz dL_law_1006 (hb 2 (by decide)) ?_
  refine ev_Vi (pc := 1007) dL_law_1007 lk_L_99 cd_X12_schedule ar_X12_schedule ⟨by decide, rfl, rfl⟩ h2 (show 68 < 120 by decide) rfl rfl rfl rfl (Nat.le_of_ble_eq_true rfl) ⟨by decide, by decide⟩ ?_
  exact ev_icmp_eq (pc := 1010) (tgt := 1104) dL_law_1010 (by decide) (fun _ => kk I2 A2 J2 t2 hI2) (fun c => absurd rfl c)
set_option maxRecDepth 100000 in
set_option maxHeartbeats 4000000 in
theorem la_slot {g : cw_G} {Iv : cw_IR} {b Ln : Nat} {xs : Nat → Int32} {Q : Option Value → cw_H → Prop} (hX : va_X b Ln xs g.2.1 g.2.1.heap) (hbz : b < cw_z g) (hOK : cw_OK_slot g Iv) {x3 : Int32} (hb : ∀ j : Int32, j ∈ ([1, 2, 3, 4, 5, 6] : List Int32) → vp_in (x3 + j) Ln) {I A : Nat → Nat → Int32} {J : Nat → Nat → Int64} {t : Bool × Bool} (hI : Iv I A J t) (kk : ∀ I2 A2 J2 t2, Iv I2 A2 J2 t2 → Ev g mL_law 120 27563 1104 [some (.ref b), some (.ref (cw_z g + 0)), some (.ref (cw_z g + 68)), some (.int x3)] [] (hp g I2 A2 J2 t2) Q) : Ev g mL_law 120 27563 1015 [some (.ref b), some (.ref (cw_z g + 0)), some (.ref (cw_z g + 68)), some (.int x3)] [] (hp g I A J t) Q := by
  obtain ⟨r, I1, A1, J1, t1, I2, A2, J2, t2, h1, h2, hI2⟩ := hOK (xs (x3 + 1).toNatClampNeg) (xs (x3 + 2).toNatClampNeg) (xs (x3 + 3).toNatClampNeg) I A J t hI
  refine ev_aload_n (pc := 1015) dL_law_1015 rfl ?_
  refine ev_aload_n (pc := 1016) dL_law_1016 rfl ?_
  refine ev_iload_n (pc := 1017) dL_law_1017 rfl ?_
  refine ev_iconst (pc := 1018) (v := 1) dL_law_1018 (by decide) ?_
  refine ev_iadd (pc := 1019) dL_law_1019 ?_
  refine ev_scl (pc := 1020) hX hbz dL_law_1020 (hb 1 (by decide)) ?_
  refine ev_aload_n (pc := 1021) dL_law_1021 rfl ?_
  refine ev_iload_n (pc := 1022) dL_law_1022 rfl ?_
  refine ev_iconst (pc := 1023) (v := 2) dL_law_1023 (by decide) ?_
  refine ev_iadd (pc := 1024) dL_law_1024 ?_
  refine ev_scl (pc := 1025) hX hbz dL_law_1025 (hb 2 (by decide)) ?_
  refine ev_aload_n (pc := 1026) dL_law_1026 rfl ?_
  refine ev_iload_n (pc := 1027) dL_law_1027 rfl ?_
  refine ev_iconst (pc := 1028) (v := 3) dL_law_1028 (by decide) ?_
  refine ev_iadd (pc := 1029) dL_law_1029 ?_
  refine ev_scl (pc := 1030) hX hbz dL_law_1030 (hb 3 (by decide)) ?_
  refine ev_Vi (pc := 1031) dL_law_1031 lk_L_100 cd_X11_slot ar_X11_slot ⟨by decide, rfl, rfl⟩ h1 (show 0 < 120 by decide) rfl rfl rfl rfl (Nat.le_of_ble_eq_true rfl) ⟨by decide, by decide⟩ ?_
  refine ev_aload_n (pc := 1034) dL_law_1034 rfl ?_
  refine ev_aload_n (pc := 1035) dL_law_1035 rfl ?_
  refine ev_iload_n (pc := 1036) dL_law_1036 rfl ?_
  refine ev_iconst (pc := 1037) (v := 1) dL_law_1037 (by decide) ?_
  refine ev_iadd (pc := 1038) dL_law_1038 ?_
  refine ev_scl (pc := 1039) hX hbz dL_law_1039 (hb 1 (by decide)) ?_
  refine ev_aload_n (pc := 1040) dL_law_1040 rfl ?_
  refine ev_iload_n (pc := 1041) dL_law_1041 rfl ?_
  refine ev_iconst (pc := 1042) (v := 2) dL_law_1042 (by decide) ?_
  refine ev_iadd (pc := 1043) dL_law_1043 ?_
  refine ev_scl (pc := 1044) hX hbz dL_law_1044 (hb 2 (by decide)) ?_
  refine ev_aload_n (pc := 1045) dL_law_1045 rfl ?_
  refine ev_iload_n (pc := 1046) dL_law_1046 rfl ?_
  refine ev_iconst (pc := 1047) (v := 3) dL_law_1047 (by decide) ?_
  refine ev_iadd (pc := 1048) dL_law_1048 ?_
  refine ev_scl (pc := 1049) hX hbz dL_law_1049 (hb 3 (by decide)) ?_
  refine ev_Vi (pc := 1050) dL_law_1050 lk_L_103 cd_X12_slot ar_X12_slot ⟨by decide, rfl, rfl⟩ h2 (show 68 < 120 by decide) rfl rfl rfl rfl (Nat.le_of_ble_eq_true rfl) ⟨by decide, by decide⟩ ?_
  exact ev_icmp_eq (pc := 1053) (tgt := 1104) dL_law_1053 (by decide) (fun _ => kk I2 A2 J2 t2 hI2) (fun c => absurd rfl c)
set_option maxRecDepth 100000 in
set_option maxHeartbeats 4000000 in
theorem la_listeners {g : cw_G} {Iv : cw_IR} {b Ln : Nat} {xs : Nat → Int32} {Q : Option Value → cw_H → Prop} (hX : va_X b Ln xs g.2.1 g.2.1.heap) (hbz : b < cw_z g) (hOK : cw_OK_listeners g Iv) {x3 : Int32} (hb : ∀ j : Int32, j ∈ ([1, 2, 3, 4, 5, 6] : List Int32) → vp_in (x3 + j) Ln) {I A : Nat → Nat → Int32} {J : Nat → Nat → Int64} {t : Bool × Bool} (hI : Iv I A J t) (kk : ∀ I2 A2 J2 t2, Iv I2 A2 J2 t2 → Ev g mL_law 120 27563 1104 [some (.ref b), some (.ref (cw_z g + 0)), some (.ref (cw_z g + 68)), some (.int x3)] [] (hp g I2 A2 J2 t2) Q) : Ev g mL_law 120 27563 1058 [some (.ref b), some (.ref (cw_z g + 0)), some (.ref (cw_z g + 68)), some (.int x3)] [] (hp g I A J t) Q := by
  obtain ⟨r, I1, A1, J1, t1, I2, A2, J2, t2, h1, h2, hI2⟩ := hOK (xs (x3 + 1).toNatClampNeg) I A J t hI
  refine ev_aload_n (pc := 1058) dL_law_1058 rfl ?_
  refine ev_aload_n (pc := 1059) dL_law_1059 rfl ?_
  refine ev_iload_n (pc := 1060) dL_law_1060 rfl ?_
  refine ev_iconst (pc := 1061) (v := 1) dL_law_1061 (by decide) ?_
  refine ev_iadd (pc := 1062) dL_law_1062 ?_
  refine ev_scl (pc := 1063) hX hbz dL_law_1063 (hb 1 (by decide)) ?_
  refine ev_Vi (pc := 1064) dL_law_1064 lk_L_104 cd_X11_listeners ar_X11_listeners ⟨by decide, rfl, rfl⟩ h1 (show 0 < 120 by decide) rfl rfl rfl rfl (Nat.le_of_ble_eq_true rfl) ⟨by decide, by decide⟩ ?_
  refine ev_aload_n (pc := 1067) dL_law_1067 rfl ?_
  refine ev_aload_n (pc := 1068) dL_law_1068 rfl ?_
  refine ev_iload_n (pc := 1069) dL_law_1069 rfl ?_
  refine ev_iconst (pc := 1070) (v := 1) dL_law_1070 (by decide) ?_
  refine ev_iadd (pc := 1071) dL_law_1071 ?_
  refine ev_scl (pc := 1072) hX hbz dL_law_1072 (hb 1 (by decide)) ?_
  refine ev_Vi (pc := 1073) dL_law_1073 lk_L_107 cd_X12_listeners ar_X12_listeners ⟨by decide, rfl, rfl⟩ h2 (show 68 < 120 by decide) rfl rfl rfl rfl (Nat.le_of_ble_eq_true rfl) ⟨by decide, by decide⟩ ?_
  exact ev_icmp_eq (pc := 1076) (tgt := 1104) dL_law_1076 (by decide) (fun _ => kk I2 A2 J2 t2 hI2) (fun c => absurd rfl c)
set_option maxRecDepth 100000 in
set_option maxHeartbeats 4000000 in
theorem la_count {g : cw_G} {Iv : cw_IR} {b Ln : Nat} {xs : Nat → Int32} {Q : Option Value → cw_H → Prop} (hX : va_X b Ln xs g.2.1 g.2.1.heap) (hbz : b < cw_z g) (hOK : cw_OK_count g Iv) {x3 : Int32} (hb : ∀ j : Int32, j ∈ ([1, 2, 3, 4, 5, 6] : List Int32) → vp_in (x3 + j) Ln) {I A : Nat → Nat → Int32} {J : Nat → Nat → Int64} {t : Bool × Bool} (hI : Iv I A J t) (kk : ∀ I2 A2 J2 t2, Iv I2 A2 J2 t2 → Ev g mL_law 120 27563 1104 [some (.ref b), some (.ref (cw_z g + 0)), some (.ref (cw_z g + 68)), some (.int x3)] [] (hp g I2 A2 J2 t2) Q) : Ev g mL_law 120 27563 1081 [some (.ref b), some (.ref (cw_z g + 0)), some (.ref (cw_z g + 68)), some (.int x3)] [] (hp g I A J t) Q := by
  obtain ⟨r, I1, A1, J1, t1, I2, A2, J2, t2, h1, h2, hI2⟩ := hOK (xs (x3 + 1).toNatClampNeg) I A J t hI
  refine ev_aload_n (pc := 1081) dL_law_1081 rfl ?_
  refine ev_aload_n (pc := 1082) dL_law_1082 rfl ?_
  refine ev_iload_n (pc := 1083) dL_law_1083 rfl ?_
  refine ev_iconst (pc := 1084) (v := 1) dL_law_1084 (by decide) ?_
  refine ev_iadd (pc := 1085) dL_law_1085 ?_
  refine ev_scl (pc := 1086) hX hbz dL_law_1086 (hb 1 (by decide)) ?_
  refine ev_Vi (pc := 1087) dL_law_1087 lk_L_108 cd_X11_count ar_X11_count ⟨by decide, rfl, rfl⟩ h1 (show 0 < 120 by decide) rfl rfl rfl rfl (Nat.le_of_ble_eq_true rfl) ⟨by decide, by decide⟩ ?_
  refine ev_aload_n (pc := 1090) dL_law_1090 rfl ?_
  refine ev_aload_n (pc := 1091) dL_law_1091 rfl ?_
  refine ev_iload_n (pc := 1092) dL_law_1092 rfl ?_
  refine ev_iconst (pc := 1093) (v := 1) dL_law_1093 (by decide) ?_
  refine ev_iadd (pc := 1094) dL_law_1094 ?_
  refine ev_scl (pc := 1095) hX hbz dL_law_1095 (hb 1 (by decide)) ?_
  refine ev_Vi (pc := 1096) dL_law_1096 lk_L_111 cd_X12_count ar_X12_count ⟨by decide, rfl, rfl⟩ h2 (show 68 < 120 by decide) rfl rfl rfl rfl (Nat.le_of_ble_eq_true rfl) ⟨by decide, by decide⟩ ?_
  exact ev_icmp_eq (pc := 1099) (tgt := 1104) dL_law_1099 (by decide) (fun _ => kk I2 A2 J2 t2 hI2) (fun c => absurd rfl c)
set_option maxRecDepth 100000 in
set_option maxHeartbeats 4000000 in
theorem la_loop {g : cw_G} {Iv : cw_IR} {b Ln : Nat} {xs : Nat → Int32} (hX : va_X b Ln xs g.2.1 g.2.1.heap) (hbz : b < cw_z g) (hLn : Ln ≤ 3584) (hOK : cw_OKs g Iv) : ∀ (f i : Nat) (x3 : Int32) (I A : Nat → Nat → Int32) (J : Nat → Nat → Int64) (t : Bool × Bool), x3 = nI i → i ≤ Ln + 7 → Ln + 8 ≤ i + f → Iv I A J t → Ev g mL_law 120 27563 18 [some (.ref b), some (.ref (cw_z g + 0)), some (.ref (cw_z g + 68)), some (.int x3)] [] (hp g I A J t) (fun r _ => r = some (.int 1)) := by
  obtain ⟨ok_feed, ok_back, ok_read, ok_place, ok_ground, ok_mast, ok_programme, ok_sheet, ok_cell, ok_clock, ok_report, ok_notice, ok_way, ok_sun, ok_correction, ok_strength, ok_yields, ok_rule, ok_schedule, ok_slot, ok_listeners, ok_count⟩ := hOK
  intro f
  induction f with
  | zero =>
    intro i x3 I A J t e h1 h2
    omega
  | succ f ih =>
    intro i x3 I A J t e h1 h2 hI
    refine ev_iload_n (pc := 18) dL_law_18 rfl ?_
    refine ev_aload_n (pc := 19) dL_law_19 rfl ?_
    refine ev_scn (pc := 20) hX hbz dL_law_20 ?_
    refine ev_bipush (pc := 21) (v := 7) dL_law_21 (by decide) ?_
    refine ev_isub (pc := 23) dL_law_23 ?_
    have e7 : (nI Ln - 7).toInt = (Ln : Int) - 7 := pk_sub_toInt (a := Ln) (b := 7) (by omega) (by omega)
    have e3 : x3.toInt = (i : Int) := by rw [e]; exact nI_toInt (by omega)
    refine ev_icmp_gt (pc := 24) (tgt := 1110) dL_law_24 (by decide) (fun c => ?_) (fun c => ?_)
    · refine ev_iconst (pc := 1110) (v := 1) dL_law_1110 (by decide) ?_
      exact ev_zret (pc := 1111) dL_law_1111 rfl rfl (by decide) (by decide) rfl
    · have hi : i + 7 ≤ Ln := by
        rw [Int32.lt_iff_toInt_lt, e7, e3] at c
        omega
      have hb : ∀ j : Int32, j ∈ ([1, 2, 3, 4, 5, 6] : List Int32) → vp_in (x3 + j) Ln := by
        intro j hj
        rw [e]
        simp only [List.mem_cons, List.not_mem_nil, or_false] at hj
        rcases hj with rfl | rfl | rfl | rfl | rfl | rfl
        · exact cw_scb 1 (by omega) hLn
        · exact cw_scb 2 (by omega) hLn
        · exact cw_scb 3 (by omega) hLn
        · exact cw_scb 4 (by omega) hLn
        · exact cw_scb 5 (by omega) hLn
        · exact cw_scb 6 (by omega) hLn
      have kk : ∀ I2 A2 J2 t2, Iv I2 A2 J2 t2 → Ev g mL_law 120 27563 1104 [some (.ref b), some (.ref (cw_z g + 0)), some (.ref (cw_z g + 68)), some (.int x3)] [] (hp g I2 A2 J2 t2) (fun r _ => r = some (.int 1)) := by
        intro I2 A2 J2 t2 hI2
        refine ev_iinc_3 (pc := 1104) (v := nI (i + 7)) dL_law_1104 (by decide) (by rw [e]; exact nI_add i 7) rfl ?_
        refine ev_goto (pc := 1107) (tgt := 18) dL_law_1107 (by decide) ?_
        exact ih (i + 7) (nI (i + 7)) I2 A2 J2 t2 rfl (by omega) (by omega) hI2
      refine ev_aload_n (pc := 27) dL_law_27 rfl ?_
      refine ev_iload_n (pc := 28) dL_law_28 rfl ?_
      refine ev_scl (pc := 29) hX hbz dL_law_29 (by rw [e]; exact vp_in_nI (by omega) (by omega)) ?_
      refine ev_bipush (pc := 30) (v := 31) dL_law_30 (by decide) ?_
      refine ev_iand (pc := 32) dL_law_32 ?_
      refine ev_nm (fun y _ => ?_)
      by_cases s_0 : y = 0
      · refine ev_tableIn (pc := 33) (tgt := 136) (off := 103) dL_law_33 (by rw [s_0]; decide) (by rw [s_0]; decide) (by rw [s_0]; decide) (by decide) ?_
        exact la_feed hX hbz ok_feed hb hI kk
      by_cases s_1 : y = 1
      · refine ev_tableIn (pc := 33) (tgt := 199) (off := 166) dL_law_33 (by rw [s_1]; decide) (by rw [s_1]; decide) (by rw [s_1]; decide) (by decide) ?_
        exact la_back hX hbz ok_back hb hI kk
      by_cases s_2 : y = 2
      · refine ev_tableIn (pc := 33) (tgt := 222) (off := 189) dL_law_33 (by rw [s_2]; decide) (by rw [s_2]; decide) (by rw [s_2]; decide) (by decide) ?_
        exact la_read hX hbz ok_read hb hI kk
      by_cases s_3 : y = 3
      · refine ev_tableIn (pc := 33) (tgt := 235) (off := 202) dL_law_33 (by rw [s_3]; decide) (by rw [s_3]; decide) (by rw [s_3]; decide) (by decide) ?_
        exact la_place hX hbz ok_place hb hI kk
      by_cases s_4 : y = 4
      · refine ev_tableIn (pc := 33) (tgt := 248) (off := 215) dL_law_33 (by rw [s_4]; decide) (by rw [s_4]; decide) (by rw [s_4]; decide) (by decide) ?_
        exact la_ground hX hbz ok_ground hb hI kk
      by_cases s_5 : y = 5
      · refine ev_tableIn (pc := 33) (tgt := 291) (off := 258) dL_law_33 (by rw [s_5]; decide) (by rw [s_5]; decide) (by rw [s_5]; decide) (by decide) ?_
        exact la_mast hX hbz ok_mast hb hI kk
      by_cases s_6 : y = 6
      · refine ev_tableIn (pc := 33) (tgt := 324) (off := 291) dL_law_33 (by rw [s_6]; decide) (by rw [s_6]; decide) (by rw [s_6]; decide) (by decide) ?_
        exact la_programme hX hbz ok_programme hb hI kk
      by_cases s_7 : y = 7
      · refine ev_tableIn (pc := 33) (tgt := 367) (off := 334) dL_law_33 (by rw [s_7]; decide) (by rw [s_7]; decide) (by rw [s_7]; decide) (by decide) ?_
        exact la_sheet hX hbz ok_sheet hb hI kk
      by_cases s_8 : y = 8
      · refine ev_tableIn (pc := 33) (tgt := 400) (off := 367) dL_law_33 (by rw [s_8]; decide) (by rw [s_8]; decide) (by rw [s_8]; decide) (by decide) ?_
        exact la_cell hX hbz ok_cell hb hI kk
      by_cases s_9 : y = 9
      · refine ev_tableIn (pc := 33) (tgt := 443) (off := 410) dL_law_33 (by rw [s_9]; decide) (by rw [s_9]; decide) (by rw [s_9]; decide) (by decide) ?_
        exact la_clock hX hbz ok_clock hb hI kk
      by_cases s_10 : y = 10
      · refine ev_tableIn (pc := 33) (tgt := 466) (off := 433) dL_law_33 (by rw [s_10]; decide) (by rw [s_10]; decide) (by rw [s_10]; decide) (by decide) ?_
        exact la_report hX hbz ok_report hb hI kk
      by_cases s_11 : y = 11
      · refine ev_tableIn (pc := 33) (tgt := 529) (off := 496) dL_law_33 (by rw [s_11]; decide) (by rw [s_11]; decide) (by rw [s_11]; decide) (by decide) ?_
        exact la_notice hX hbz ok_notice hb hI kk
      by_cases s_12 : y = 12
      · refine ev_tableIn (pc := 33) (tgt := 592) (off := 559) dL_law_33 (by rw [s_12]; decide) (by rw [s_12]; decide) (by rw [s_12]; decide) (by decide) ?_
        exact la_way hX hbz ok_way hb hI kk
      by_cases s_13 : y = 13
      · refine ev_tableIn (pc := 33) (tgt := 635) (off := 602) dL_law_33 (by rw [s_13]; decide) (by rw [s_13]; decide) (by rw [s_13]; decide) (by decide) ?_
        exact la_sun hX hbz ok_sun hb rfl hI kk
      by_cases s_14 : y = 14
      · refine ev_tableIn (pc := 33) (tgt := 704) (off := 671) dL_law_33 (by rw [s_14]; decide) (by rw [s_14]; decide) (by rw [s_14]; decide) (by decide) ?_
        exact la_correction hX hbz ok_correction hb hI kk
      by_cases s_15 : y = 15
      · refine ev_tableIn (pc := 33) (tgt := 757) (off := 724) dL_law_33 (by rw [s_15]; decide) (by rw [s_15]; decide) (by rw [s_15]; decide) (by decide) ?_
        exact la_strength hX hbz ok_strength hb hI kk
      by_cases s_16 : y = 16
      · refine ev_tableIn (pc := 33) (tgt := 832) (off := 799) dL_law_33 (by rw [s_16]; decide) (by rw [s_16]; decide) (by rw [s_16]; decide) (by decide) ?_
        exact la_yields hX hbz ok_yields hb hI kk
      by_cases s_17 : y = 17
      · refine ev_tableIn (pc := 33) (tgt := 907) (off := 874) dL_law_33 (by rw [s_17]; decide) (by rw [s_17]; decide) (by rw [s_17]; decide) (by decide) ?_
        exact la_rule hX hbz ok_rule hb hI kk
      by_cases s_18 : y = 18
      · refine ev_tableIn (pc := 33) (tgt := 982) (off := 949) dL_law_33 (by rw [s_18]; decide) (by rw [s_18]; decide) (by rw [s_18]; decide) (by decide) ?_
        exact la_schedule hX hbz ok_schedule hb hI kk
      by_cases s_19 : y = 19
      · refine ev_tableIn (pc := 33) (tgt := 1015) (off := 982) dL_law_33 (by rw [s_19]; decide) (by rw [s_19]; decide) (by rw [s_19]; decide) (by decide) ?_
        exact la_slot hX hbz ok_slot hb hI kk
      by_cases s_20 : y = 20
      · refine ev_tableIn (pc := 33) (tgt := 1058) (off := 1025) dL_law_33 (by rw [s_20]; decide) (by rw [s_20]; decide) (by rw [s_20]; decide) (by decide) ?_
        exact la_listeners hX hbz ok_listeners hb hI kk
      by_cases s_21 : y = 21
      · refine ev_tableIn (pc := 33) (tgt := 1081) (off := 1048) dL_law_33 (by rw [s_21]; decide) (by rw [s_21]; decide) (by rw [s_21]; decide) (by decide) ?_
        exact la_count hX hbz ok_count hb hI kk
      refine ev_tableOut (pc := 33) (tgt := 1104) dL_law_33 (by simp only [← Int32.toInt_inj, Int32.reduceToInt] at s_0 s_1 s_2 s_3 s_4 s_5 s_6 s_7 s_8 s_9 s_10 s_11 s_12 s_13 s_14 s_15 s_16 s_17 s_18 s_19 s_20 s_21; omega) (by decide) ?_
      exact kk I A J t hI
