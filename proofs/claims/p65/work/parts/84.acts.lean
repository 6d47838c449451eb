/-! THE LAW'S acts AND build. -/
theorem nz {n : Nat} (h : n < 2 ^ 31) : ¬ nI n < 0 := nI_pos h
theorem kL_acts {l : Launch} {G : GX} {N : Nat} {S : Nat → va_E} {K : RK} {D : DM} {Q : MM} {B i : Nat} (hi : i < 1000) (hD : isD G N S D) (hR : Rel B 0 D Q) (h0 : 0 < fN (dF D 0)) (hB : B + 48 ≤ 80000) (hL : gSl G ≤ 260) (hk : ∀ S1 D1 Q1, isD G N S1 D1 → Rel (B + 48) 0 D1 Q1 → 0 < fN (dF D1 0) → DR S S1 → K (.inl none) S1) : RetK l G N mL_acts (10, 230, 4, 24) [.ref (ad G 0), .ref (gSa G), .int (nI i)] S K := by
  refine ret_enter (by decide +kernel) (Nat.le_of_ble_eq_true rfl) (fun X hX h hm => ?_)
  subst hX
  replace h : OK X G N cL_acts RL 7 (10, 230, 4, 24) := h
  replace hm : OKm X G N K none (10, 230, 4, 24) := hm
  show AW X G 7 N 0 [(0, _), (1, _), (2, _)] [] S 0 0
  have hvD := hR.v
  have hw := hvD.2.2.1
  refine r_aload_n (pc' := 1) h dL_acts_0 rfl rfl ?_
  refine r_iload_n (pc' := 2) h dL_acts_1 rfl rfl ?_
  refine r_iconst (pc' := 3) (v := 1) h dL_acts_2 rfl (by decide) ?_
  refine r_iadd (pc' := 4) h dL_acts_3 rfl ?_
  rw [show nI i + 1 = nI (i + 1) from nI_add i 1]
  refine r_sipush (pc' := 7) (v := 400) h dL_acts_4 rfl (by decide) ?_
  refine r_callSK (st := []) (As := [.ref (gSa G), .int (nI (i + 1)), .int (nI 400)]) (M := mL_some) (pc' := 10) h dL_acts_7 rfl lL_88 vL_some rfl rfl (Nat.le_of_ble_eq_true rfl) (rrb rfl) (kL_some (nz (by omega)) (by decide) (by decide) hL (fun v hv => K_int ?_))
  refine r_istoren (j := 3) (pc' := 11) h rfl dL_acts_10 rfl (by decide) rfl ?_
  refine r_aload_n (pc' := 12) h dL_acts_11 rfl rfl ?_
  refine r_iload_n (pc' := 13) h dL_acts_12 rfl rfl ?_
  refine r_iconst (pc' := 14) (v := 2) h dL_acts_13 rfl (by decide) ?_
  refine r_iadd (pc' := 15) h dL_acts_14 rfl ?_
  rw [show nI i + 2 = nI (i + 2) from nI_add i 2]
  refine r_aload_n (pc' := 16) h dL_acts_15 rfl rfl ?_
  refine r_callVL (st := [.int (nI (i + 2)), .ref (gSa G)]) (As := []) (M := mX4_turbineCount) (pc' := 19) h dL_acts_16 rfl lL_108 vX4_turbineCount rfl hD.l0 hD.o0 rfl rfl (Nat.le_of_ble_eq_true rfl) (rrb rfl) (kX4_turbineCount hD (K_int ?_))
  rw [hw.1]
  refine r_callSK (st := []) (As := [.ref (gSa G), .int (nI (i + 2)), .int (nI (fN (dF D 0)))]) (M := mL_some) (pc' := 22) h dL_acts_19 rfl lL_88 vL_some rfl rfl (Nat.le_of_ble_eq_true rfl) (rrb rfl) (kL_some (nz (by omega)) h0 (by have := hw.2; omega) hL (fun t ht => K_int ?_))
  refine r_istore (pc' := 24) h dL_acts_22 rfl (by decide) rfl ?_
  refine r_aload_n (pc' := 25) h dL_acts_24 rfl rfl ?_
  refine r_iload_n (pc' := 26) h dL_acts_25 rfl rfl ?_
  refine r_iconst (pc' := 27) (v := 3) h dL_acts_26 rfl (by decide) ?_
  refine r_iadd (pc' := 28) h dL_acts_27 rfl ?_
  rw [show nI i + 3 = nI (i + 3) from nI_add i 3]
  refine r_bipush (pc' := 30) (v := 24) h dL_acts_28 rfl (by decide) ?_
  refine r_callSK (st := []) (As := [.ref (gSa G), .int (nI (i + 3)), .int (nI 24)]) (M := mL_some) (pc' := 33) h dL_acts_30 rfl lL_88 vL_some rfl rfl (Nat.le_of_ble_eq_true rfl) (rrb rfl) (kL_some (nz (by omega)) (by decide) (by decide) hL (fun hh hhh => K_int ?_))
  refine r_istore (pc' := 35) h dL_acts_33 rfl (by decide) rfl ?_
  refine r_aload_n (pc' := 36) h dL_acts_35 rfl rfl ?_
  refine r_iload_n (pc' := 37) h dL_acts_36 rfl rfl ?_
  refine r_bipush (pc' := 39) (v := 16) h dL_acts_37 rfl (by decide) ?_
  refine r_callSK (st := []) (As := [.ref (gSa G), .int (nI i), .int (nI 16)]) (M := mL_some) (pc' := 42) h dL_acts_39 rfl lL_88 vL_some rfl rfl (Nat.le_of_ble_eq_true rfl) (rrb rfl) (kL_some (nz (by omega)) (by decide) (by decide) hL (fun sw hsw => K_int ?_))
  have fin : ∀ S1 D1 Q1 (y : Int32) (a b : Nat), a ≤ 4 → b ≤ 24 → isD G N S1 D1 → Rel (B + 48) 0 D1 Q1 → 0 < fN (dF D1 0) → DR S S1 → AW X G 7 N 306 ([(0, .ref (ad G 0)), (1, .ref (gSa G)), (2, .int (nI i)), (3, .int (nI v)), (4, .int (nI t)), (5, .int (nI hh))] ++ [(6, .int y)]) [] S1 a b := fun S1 D1 Q1 y a b ha hb k1 k2 k3 k4 => r_return h hm dL_acts_306 ha hb (hk S1 D1 Q1 k1 k2 k3 k4)
  refine r_tsw h dL_acts_42 [(0, 70), (1, 106), (2, 106), (3, 117), (4, 117), (5, 134), (6, 145), (7, 160), (8, 171), (9, 171), (10, 189), (11, 199), (12, 208), (13, 241)] (by decide) (by decide) (by decide) (by decide) ?_
  refine ⟨fun _ => ?_, fun _ => ?_⟩
  · show AW X G 7 N 112 [(0, .ref (ad G 0)), (1, .ref (gSa G)), (2, .int (nI i)), (3, .int (nI v)), (4, .int (nI t)), (5, .int (nI hh))] [] S 0 0
    refine r_aload_n (pc' := 113) h dL_acts_112 rfl rfl ?_
    refine r_callVL (st := []) (As := []) (M := mX4_turbineCount) (pc' := 116) h dL_acts_113 rfl lL_108 vX4_turbineCount rfl hD.l0 hD.o0 rfl rfl (Nat.le_of_ble_eq_true rfl) (rrb rfl) (kX4_turbineCount hD (K_int ?_))
    refine r_bipush (pc' := 118) (v := 10) h dL_acts_116 rfl (by decide) ?_
    refine r_icmp_ge (tgt := 142) (pc' := 121) h dL_acts_118 (by decide) rfl (fun c1 => ?_) (fun c1 => ?_)
    · refine r_iconst (pc' := 143) (v := 0) h dL_acts_142 rfl (by decide) ?_
      refine r_istore (pc' := 145) h dL_acts_143 rfl (by decide) rfl ?_
      refine r_goto (tgt := 306) h dL_acts_145 (by decide) ?_
      exact fin S D Q _ _ _ (by decide) (by decide) hD (hR.mono (by omega)) h0 (fun _ _ => rfl)
    · refine r_aload_n (pc' := 122) h dL_acts_121 rfl rfl ?_
      refine r_iload_n (pc' := 123) h dL_acts_122 rfl rfl ?_
      refine r_iconst (pc' := 124) (v := 5) h dL_acts_123 rfl (by decide) ?_
      refine r_irem (pc' := 125) h dL_acts_124 rfl (by decide) ?_
      refine r_iload (pc' := 127) h dL_acts_125 rfl rfl ?_
      refine r_bipush (pc' := 129) (v := 6) h dL_acts_127 rfl (by decide) ?_
      refine r_irem (pc' := 130) h dL_acts_129 rfl (by decide) ?_
      refine r_iconst (pc' := 131) (v := 1) h dL_acts_130 rfl (by decide) ?_
      refine r_iload_n (pc' := 132) h dL_acts_131 rfl rfl ?_
      refine r_bipush (pc' := 134) (v := 9) h dL_acts_132 rfl (by decide) ?_
      refine r_irem (pc' := 135) h dL_acts_134 rfl (by decide) ?_
      refine r_iadd (pc' := 136) h dL_acts_135 rfl ?_
      refine r_callSL (st := []) (As := [.ref (ad G 0), .int (nI v - nI v / 5 * 5), .int (nI hh - nI hh / 6 * 6), .int (1 + (nI v - nI v / 9 * 9))]) (M := mL_addTurbine) (pc' := 139) h dL_acts_136 rfl lL_92 wL_addTurbine rfl rfl (Nat.le_of_ble_eq_true rfl) (rrb rfl) (kL_addTurbine hD hvD (chg_add hR (nI v - nI v / 5 * 5) (nI hh - nI hh / 6 * 6) (1 + (nI v - nI v / 9 * 9))).2 (fun S1 y hD1 hR1 => K_int ?_))
      refine r_goto (tgt := 143) h dL_acts_139 (by decide) ?_
      refine r_istore (pc' := 145) h dL_acts_143 rfl (by decide) rfl ?_
      refine r_goto (tgt := 306) h dL_acts_145 (by decide) ?_
      exact fin S1 _ _ _ _ _ (by decide) (by decide) hD1 (chg_add hR (nI v - nI v / 5 * 5) (nI hh - nI hh / 6 * 6) (1 + (nI v - nI v / 9 * 9))).1 (zCh_cnt hR (chg_add hR (nI v - nI v / 5 * 5) (nI hh - nI hh / 6 * 6) (1 + (nI v - nI v / 9 * 9))).1 h0) hR1
  · skip
    refine ⟨fun _ => ?_, fun _ => ?_⟩
    · show AW X G 7 N 148 [(0, .ref (ad G 0)), (1, .ref (gSa G)), (2, .int (nI i)), (3, .int (nI v)), (4, .int (nI t)), (5, .int (nI hh))] [] S 0 0
      refine r_aload_n (pc' := 149) h dL_acts_148 rfl rfl ?_
      refine r_iload (pc' := 151) h dL_acts_149 rfl rfl ?_
      refine r_callSL (st := []) (As := [.ref (ad G 0), .int (nI t)]) (M := mL_fail) (pc' := 154) h dL_acts_151 rfl lL_111 wL_fail rfl rfl (Nat.le_of_ble_eq_true rfl) (rrb rfl) (kL_fail hD hvD (chg_fail hR (nI t)).2 (fun S1 y hD1 hR1 => K_int ?_))
      refine r_istore (pc' := 156) h dL_acts_154 rfl (by decide) rfl ?_
      refine r_goto (tgt := 306) h dL_acts_156 (by decide) ?_
      exact fin S1 _ _ _ _ _ (by decide) (by decide) hD1 (chg_fail hR (nI t)).1 (zCh_cnt hR (chg_fail hR (nI t)).1 h0) hR1
    · skip
      refine ⟨fun _ => ?_, fun _ => ?_⟩
      · show AW X G 7 N 148 [(0, .ref (ad G 0)), (1, .ref (gSa G)), (2, .int (nI i)), (3, .int (nI v)), (4, .int (nI t)), (5, .int (nI hh))] [] S 0 0
        refine r_aload_n (pc' := 149) h dL_acts_148 rfl rfl ?_
        refine r_iload (pc' := 151) h dL_acts_149 rfl rfl ?_
        refine r_callSL (st := []) (As := [.ref (ad G 0), .int (nI t)]) (M := mL_fail) (pc' := 154) h dL_acts_151 rfl lL_111 wL_fail rfl rfl (Nat.le_of_ble_eq_true rfl) (rrb rfl) (kL_fail hD hvD (chg_fail hR (nI t)).2 (fun S1 y hD1 hR1 => K_int ?_))
        refine r_istore (pc' := 156) h dL_acts_154 rfl (by decide) rfl ?_
        refine r_goto (tgt := 306) h dL_acts_156 (by decide) ?_
        exact fin S1 _ _ _ _ _ (by decide) (by decide) hD1 (chg_fail hR (nI t)).1 (zCh_cnt hR (chg_fail hR (nI t)).1 h0) hR1
      · skip
        refine ⟨fun _ => ?_, fun _ => ?_⟩
        · show AW X G 7 N 159 [(0, .ref (ad G 0)), (1, .ref (gSa G)), (2, .int (nI i)), (3, .int (nI v)), (4, .int (nI t)), (5, .int (nI hh))] [] S 0 0
          refine r_aload_n (pc' := 160) h dL_acts_159 rfl rfl ?_
          refine r_iload (pc' := 162) h dL_acts_160 rfl rfl ?_
          refine r_iconst (pc' := 163) (v := 1) h dL_acts_162 rfl (by decide) ?_
          refine r_iload_n (pc' := 164) h dL_acts_163 rfl rfl ?_
          refine r_bipush (pc' := 166) (v := 12) h dL_acts_164 rfl (by decide) ?_
          refine r_irem (pc' := 167) h dL_acts_166 rfl (by decide) ?_
          refine r_iadd (pc' := 168) h dL_acts_167 rfl ?_
          refine r_callSL (st := []) (As := [.ref (ad G 0), .int (nI t), .int (1 + (nI v - nI v / 12 * 12))]) (M := mL_sendCrew) (pc' := 171) h dL_acts_168 rfl lL_114 wL_sendCrew rfl rfl (Nat.le_of_ble_eq_true rfl) (rrb rfl) (kL_sendCrew hD hvD (chg_send hR (nI t) (1 + (nI v - nI v / 12 * 12))).2 (fun S1 y hD1 hR1 => K_int ?_))
          refine r_istore (pc' := 173) h dL_acts_171 rfl (by decide) rfl ?_
          refine r_goto (tgt := 306) h dL_acts_173 (by decide) ?_
          exact fin S1 _ _ _ _ _ (by decide) (by decide) hD1 (chg_send hR (nI t) (1 + (nI v - nI v / 12 * 12))).1 (zCh_cnt hR (chg_send hR (nI t) (1 + (nI v - nI v / 12 * 12))).1 h0) hR1
        · skip
          refine ⟨fun _ => ?_, fun _ => ?_⟩
          · show AW X G 7 N 159 [(0, .ref (ad G 0)), (1, .ref (gSa G)), (2, .int (nI i)), (3, .int (nI v)), (4, .int (nI t)), (5, .int (nI hh))] [] S 0 0
            refine r_aload_n (pc' := 160) h dL_acts_159 rfl rfl ?_
            refine r_iload (pc' := 162) h dL_acts_160 rfl rfl ?_
            refine r_iconst (pc' := 163) (v := 1) h dL_acts_162 rfl (by decide) ?_
            refine r_iload_n (pc' := 164) h dL_acts_163 rfl rfl ?_
            refine r_bipush (pc' := 166) (v := 12) h dL_acts_164 rfl (by decide) ?_
            refine r_irem (pc' := 167) h dL_acts_166 rfl (by decide) ?_
            refine r_iadd (pc' := 168) h dL_acts_167 rfl ?_
            refine r_callSL (st := []) (As := [.ref (ad G 0), .int (nI t), .int (1 + (nI v - nI v / 12 * 12))]) (M := mL_sendCrew) (pc' := 171) h dL_acts_168 rfl lL_114 wL_sendCrew rfl rfl (Nat.le_of_ble_eq_true rfl) (rrb rfl) (kL_sendCrew hD hvD (chg_send hR (nI t) (1 + (nI v - nI v / 12 * 12))).2 (fun S1 y hD1 hR1 => K_int ?_))
            refine r_istore (pc' := 173) h dL_acts_171 rfl (by decide) rfl ?_
            refine r_goto (tgt := 306) h dL_acts_173 (by decide) ?_
            exact fin S1 _ _ _ _ _ (by decide) (by decide) hD1 (chg_send hR (nI t) (1 + (nI v - nI v / 12 * 12))).1 (zCh_cnt hR (chg_send hR (nI t) (1 + (nI v - nI v / 12 * 12))).1 h0) hR1
          · skip
            refine ⟨fun _ => ?_, fun _ => ?_⟩
            · show AW X G 7 N 176 [(0, .ref (ad G 0)), (1, .ref (gSa G)), (2, .int (nI i)), (3, .int (nI v)), (4, .int (nI t)), (5, .int (nI hh))] [] S 0 0
              refine r_aload_n (pc' := 177) h dL_acts_176 rfl rfl ?_
              refine r_iload (pc' := 179) h dL_acts_177 rfl rfl ?_
              refine r_callSL (st := []) (As := [.ref (ad G 0), .int (nI t)]) (M := mL_recallCrew) (pc' := 182) h dL_acts_179 rfl lL_117 wL_recallCrew rfl rfl (Nat.le_of_ble_eq_true rfl) (rrb rfl) (kL_recallCrew hD hvD (chg_recall hR (nI t)).2 (fun S1 y hD1 hR1 => K_int ?_))
              refine r_istore (pc' := 184) h dL_acts_182 rfl (by decide) rfl ?_
              refine r_goto (tgt := 306) h dL_acts_184 (by decide) ?_
              exact fin S1 _ _ _ _ _ (by decide) (by decide) hD1 (chg_recall hR (nI t)).1 (zCh_cnt hR (chg_recall hR (nI t)).1 h0) hR1
            · skip
              refine ⟨fun _ => ?_, fun _ => ?_⟩
              · show AW X G 7 N 187 [(0, .ref (ad G 0)), (1, .ref (gSa G)), (2, .int (nI i)), (3, .int (nI v)), (4, .int (nI t)), (5, .int (nI hh))] [] S 0 0
                refine r_aload_n (pc' := 188) h dL_acts_187 rfl rfl ?_
                refine r_iload (pc' := 190) h dL_acts_188 rfl rfl ?_
                refine r_iload_n (pc' := 191) h dL_acts_190 rfl rfl ?_
                refine r_bipush (pc' := 193) (v := 91) h dL_acts_191 rfl (by decide) ?_
                refine r_irem (pc' := 194) h dL_acts_193 rfl (by decide) ?_
                refine r_callSL (st := []) (As := [.ref (ad G 0), .int (nI t), .int (nI v - nI v / 91 * 91)]) (M := mL_curtail) (pc' := 197) h dL_acts_194 rfl lL_119 wL_curtail rfl rfl (Nat.le_of_ble_eq_true rfl) (rrb rfl) (kL_curtail hD hvD (chg_curtail hR (nI t) (nI v - nI v / 91 * 91)).2 (fun S1 y hD1 hR1 => K_int ?_))
                refine r_istore (pc' := 199) h dL_acts_197 rfl (by decide) rfl ?_
                refine r_goto (tgt := 306) h dL_acts_199 (by decide) ?_
                exact fin S1 _ _ _ _ _ (by decide) (by decide) hD1 (chg_curtail hR (nI t) (nI v - nI v / 91 * 91)).1 (zCh_cnt hR (chg_curtail hR (nI t) (nI v - nI v / 91 * 91)).1 h0) hR1
              · skip
                refine ⟨fun _ => ?_, fun _ => ?_⟩
                · show AW X G 7 N 202 [(0, .ref (ad G 0)), (1, .ref (gSa G)), (2, .int (nI i)), (3, .int (nI v)), (4, .int (nI t)), (5, .int (nI hh))] [] S 0 0
                  refine r_aload_n (pc' := 203) h dL_acts_202 rfl rfl ?_
                  refine r_iload (pc' := 205) h dL_acts_203 rfl rfl ?_
                  refine r_callSL (st := []) (As := [.ref (ad G 0), .int (nI t)]) (M := mL_release) (pc' := 208) h dL_acts_205 rfl lL_121 wL_release rfl rfl (Nat.le_of_ble_eq_true rfl) (rrb rfl) (kL_release hD hvD (chg_release hR (nI t)).2 (fun S1 y hD1 hR1 => K_int ?_))
                  refine r_istore (pc' := 210) h dL_acts_208 rfl (by decide) rfl ?_
                  refine r_goto (tgt := 306) h dL_acts_210 (by decide) ?_
                  exact fin S1 _ _ _ _ _ (by decide) (by decide) hD1 (chg_release hR (nI t)).1 (zCh_cnt hR (chg_release hR (nI t)).1 h0) hR1
                · skip
                  refine ⟨fun _ => ?_, fun _ => ?_⟩
                  · show AW X G 7 N 213 [(0, .ref (ad G 0)), (1, .ref (gSa G)), (2, .int (nI i)), (3, .int (nI v)), (4, .int (nI t)), (5, .int (nI hh))] [] S 0 0
                    refine r_aload_n (pc' := 214) h dL_acts_213 rfl rfl ?_
                    refine r_iload (pc' := 216) h dL_acts_214 rfl rfl ?_
                    refine r_callSK (st := [.ref (ad G 0)]) (As := [.int (nI hh)]) (M := mL_way) (pc' := 219) h dL_acts_216 rfl lL_95 vL_way rfl rfl (Nat.le_of_ble_eq_true rfl) (rrb rfl) (kL_way (K_int ?_))
                    refine r_iload_n (pc' := 220) h dL_acts_219 rfl rfl ?_
                    refine r_bipush (pc' := 222) (v := 31) h dL_acts_220 rfl (by decide) ?_
                    refine r_irem (pc' := 223) h dL_acts_222 rfl (by decide) ?_
                    refine r_callSL (st := []) (As := [.ref (ad G 0), .int (wayI (nI hh)), .int (nI v - nI v / 31 * 31)]) (M := mL_setWind) (pc' := 226) h dL_acts_223 rfl lL_99 wL_setWind rfl rfl (Nat.le_of_ble_eq_true rfl) (rrb rfl) (kL_setWind hD hvD (wayI_ch _) (chg_wind hR (wayI (nI hh)) (nI v - nI v / 31 * 31)).2 (fun S1 y hD1 hR1 => K_int ?_))
                    refine r_istore (pc' := 228) h dL_acts_226 rfl (by decide) rfl ?_
                    refine r_goto (tgt := 306) h dL_acts_228 (by decide) ?_
                    exact fin S1 _ _ _ _ _ (by decide) (by decide) hD1 (chg_wind hR (wayI (nI hh)) (nI v - nI v / 31 * 31)).1 (zCh_cnt hR (chg_wind hR (wayI (nI hh)) (nI v - nI v / 31 * 31)).1 h0) hR1
                  · skip
                    refine ⟨fun _ => ?_, fun _ => ?_⟩
                    · show AW X G 7 N 213 [(0, .ref (ad G 0)), (1, .ref (gSa G)), (2, .int (nI i)), (3, .int (nI v)), (4, .int (nI t)), (5, .int (nI hh))] [] S 0 0
                      refine r_aload_n (pc' := 214) h dL_acts_213 rfl rfl ?_
                      refine r_iload (pc' := 216) h dL_acts_214 rfl rfl ?_
                      refine r_callSK (st := [.ref (ad G 0)]) (As := [.int (nI hh)]) (M := mL_way) (pc' := 219) h dL_acts_216 rfl lL_95 vL_way rfl rfl (Nat.le_of_ble_eq_true rfl) (rrb rfl) (kL_way (K_int ?_))
                      refine r_iload_n (pc' := 220) h dL_acts_219 rfl rfl ?_
                      refine r_bipush (pc' := 222) (v := 31) h dL_acts_220 rfl (by decide) ?_
                      refine r_irem (pc' := 223) h dL_acts_222 rfl (by decide) ?_
                      refine r_callSL (st := []) (As := [.ref (ad G 0), .int (wayI (nI hh)), .int (nI v - nI v / 31 * 31)]) (M := mL_setWind) (pc' := 226) h dL_acts_223 rfl lL_99 wL_setWind rfl rfl (Nat.le_of_ble_eq_true rfl) (rrb rfl) (kL_setWind hD hvD (wayI_ch _) (chg_wind hR (wayI (nI hh)) (nI v - nI v / 31 * 31)).2 (fun S1 y hD1 hR1 => K_int ?_))
                      refine r_istore (pc' := 228) h dL_acts_226 rfl (by decide) rfl ?_
                      refine r_goto (tgt := 306) h dL_acts_228 (by decide) ?_
                      exact fin S1 _ _ _ _ _ (by decide) (by decide) hD1 (chg_wind hR (wayI (nI hh)) (nI v - nI v / 31 * 31)).1 (zCh_cnt hR (chg_wind hR (wayI (nI hh)) (nI v - nI v / 31 * 31)).1 h0) hR1
                    · skip
                      refine ⟨fun _ => ?_, fun _ => ?_⟩
                      · show AW X G 7 N 231 [(0, .ref (ad G 0)), (1, .ref (gSa G)), (2, .int (nI i)), (3, .int (nI v)), (4, .int (nI t)), (5, .int (nI hh))] [] S 0 0
                        refine r_aload_n (pc' := 232) h dL_acts_231 rfl rfl ?_
                        refine r_iload_n (pc' := 233) h dL_acts_232 rfl rfl ?_
                        refine r_callSL (st := []) (As := [.ref (ad G 0), .int (nI v)]) (M := mL_setGridLimit) (pc' := 236) h dL_acts_233 rfl lL_123 wL_setGridLimit rfl rfl (Nat.le_of_ble_eq_true rfl) (rrb rfl) (kL_setGridLimit hD hvD (chg_grid hR (nI v)).2 (fun S1 y hD1 hR1 => K_int ?_))
                        refine r_istore (pc' := 238) h dL_acts_236 rfl (by decide) rfl ?_
                        refine r_goto (tgt := 306) h dL_acts_238 (by decide) ?_
                        exact fin S1 _ _ _ _ _ (by decide) (by decide) hD1 (chg_grid hR (nI v)).1 (zCh_cnt hR (chg_grid hR (nI v)).1 h0) hR1
                      · skip
                        refine ⟨fun _ => ?_, fun _ => ?_⟩
                        · show AW X G 7 N 241 [(0, .ref (ad G 0)), (1, .ref (gSa G)), (2, .int (nI i)), (3, .int (nI v)), (4, .int (nI t)), (5, .int (nI hh))] [] S 0 0
                          refine r_aload_n (pc' := 242) h dL_acts_241 rfl rfl ?_
                          refine r_callVL (st := []) (As := []) (M := mX4_dispatch) (pc' := 245) h dL_acts_242 rfl lL_125 vX4_dispatch rfl hD.l0 hD.o0 rfl rfl (Nat.le_of_ble_eq_true rfl) (rrb rfl) (kX4_dispatch hD hvD (fun S1 hD1 hR1 => ?_))
                          rcases (chg_disp hR).2 with ⟨e, ek⟩ | ⟨i2, E, hi2, e, ek⟩
                          · rw [e]
                            refine K_int ?_
                            refine r_istore (pc' := 247) h dL_acts_245 rfl (by decide) rfl ?_
                            refine r_goto (tgt := 306) h dL_acts_247 (by decide) ?_
                            exact fin S1 _ _ _ _ _ (by decide) (by decide) hD1 (chg_disp hR).1 (zCh_cnt hR (chg_disp hR).1 h0) hR1
                          · cases hi2
                        · skip
                          refine ⟨fun _ => ?_, fun _ => ?_⟩
                          · show AW X G 7 N 250 [(0, .ref (ad G 0)), (1, .ref (gSa G)), (2, .int (nI i)), (3, .int (nI v)), (4, .int (nI t)), (5, .int (nI hh))] [] S 0 0
                            refine r_iload_n (pc' := 251) h dL_acts_250 rfl rfl ?_
                            refine r_iconst (pc' := 252) (v := 3) h dL_acts_251 rfl (by decide) ?_
                            refine r_irem (pc' := 253) h dL_acts_252 rfl (by decide) ?_
                            refine r_if_ne (tgt := 263) (pc' := 256) h dL_acts_253 (by decide) rfl (fun c1 => ?_) (fun c1 => ?_)
                            · refine r_aload_n (pc' := 264) h dL_acts_263 rfl rfl ?_
                              refine r_iload (pc' := 266) h dL_acts_264 rfl rfl ?_
                              refine r_iconst (pc' := 267) (v := 1) h dL_acts_266 rfl (by decide) ?_
                              refine r_iload_n (pc' := 268) h dL_acts_267 rfl rfl ?_
                              refine r_bipush (pc' := 270) (v := 50) h dL_acts_268 rfl (by decide) ?_
                              refine r_irem (pc' := 271) h dL_acts_270 rfl (by decide) ?_
                              refine r_iadd (pc' := 272) h dL_acts_271 rfl ?_
                              refine r_iconst (pc' := 273) (v := 1) h dL_acts_272 rfl (by decide) ?_
                              refine r_iload_n (pc' := 274) h dL_acts_273 rfl rfl ?_
                              refine r_iadd (pc' := 275) h dL_acts_274 rfl ?_
                              refine r_callSL (st := []) (As := [.ref (ad G 0), .int (nI hh), .int (1 + (nI v - nI v / 50 * 50)), .int (1 + nI v)]) (M := mL_placeBid) (pc' := 278) h dL_acts_275 rfl lL_102 wL_placeBid rfl rfl (Nat.le_of_ble_eq_true rfl) (rrb rfl) (kL_placeBid hD hvD (chg_bid hR (nI hh) (1 + (nI v - nI v / 50 * 50)) (1 + nI v)).2 (fun S1 y hD1 hR1 => K_int ?_))
                              refine r_istore (pc' := 280) h dL_acts_278 rfl (by decide) rfl ?_
                              refine r_goto (tgt := 306) h dL_acts_280 (by decide) ?_
                              exact fin S1 _ _ _ _ _ (by decide) (by decide) hD1 (chg_bid hR (nI hh) (1 + (nI v - nI v / 50 * 50)) (1 + nI v)).1 (zCh_cnt hR (chg_bid hR (nI hh) (1 + (nI v - nI v / 50 * 50)) (1 + nI v)).1 h0) hR1
                            · refine r_aload_n (pc' := 257) h dL_acts_256 rfl rfl ?_
                              refine r_callVL (st := []) (As := []) (M := mX4_releaseAll) (pc' := 260) h dL_acts_257 rfl lL_128 vX4_releaseAll rfl hD.l0 hD.o0 rfl rfl (Nat.le_of_ble_eq_true rfl) (rrb rfl) (kX4_releaseAll hD hvD (fun S1 hD1 hR1 => ?_))
                              rcases (chg_relall hR).2 with ⟨e, ek⟩ | ⟨i2, E, hi2, e, ek⟩
                              · rw [e]
                                refine K_int ?_
                                refine r_goto (tgt := 278) h dL_acts_260 (by decide) ?_
                                refine r_istore (pc' := 280) h dL_acts_278 rfl (by decide) rfl ?_
                                refine r_goto (tgt := 306) h dL_acts_280 (by decide) ?_
                                exact fin S1 _ _ _ _ _ (by decide) (by decide) hD1 (chg_relall hR).1 (zCh_cnt hR (chg_relall hR).1 h0) hR1
                              · cases hi2
                          · skip
                            refine ⟨fun _ => ?_, fun _ => ?_⟩
                            · show AW X G 7 N 283 [(0, .ref (ad G 0)), (1, .ref (gSa G)), (2, .int (nI i)), (3, .int (nI v)), (4, .int (nI t)), (5, .int (nI hh))] [] S 0 0
                              refine r_aload_n (pc' := 284) h dL_acts_283 rfl rfl ?_
                              refine r_iload (pc' := 286) h dL_acts_284 rfl rfl ?_
                              refine r_callSL (st := []) (As := [.ref (ad G 0), .int (nI hh)]) (M := mL_withdrawBid) (pc' := 289) h dL_acts_286 rfl lL_131 wL_withdrawBid rfl rfl (Nat.le_of_ble_eq_true rfl) (rrb rfl) (kL_withdrawBid hD hvD (chg_unbid hR (nI hh)).2 (fun S1 y hD1 hR1 => K_int ?_))
                              refine r_istore (pc' := 291) h dL_acts_289 rfl (by decide) rfl ?_
                              refine r_goto (tgt := 306) h dL_acts_291 (by decide) ?_
                              exact fin S1 _ _ _ _ _ (by decide) (by decide) hD1 (chg_unbid hR (nI hh)).1 (zCh_cnt hR (chg_unbid hR (nI hh)).1 h0) hR1
                            · skip
                              show AW X G 7 N 294 [(0, .ref (ad G 0)), (1, .ref (gSa G)), (2, .int (nI i)), (3, .int (nI v)), (4, .int (nI t)), (5, .int (nI hh))] [] S 0 0
                              refine r_aload_n (pc' := 295) h dL_acts_294 rfl rfl ?_
                              refine r_iconst (pc' := 296) (v := 1) h dL_acts_295 rfl (by decide) ?_
                              refine r_iload_n (pc' := 297) h dL_acts_296 rfl rfl ?_
                              refine r_bipush (pc' := 299) (v := 9) h dL_acts_297 rfl (by decide) ?_
                              refine r_irem (pc' := 300) h dL_acts_299 rfl (by decide) ?_
                              refine r_iadd (pc' := 301) h dL_acts_300 rfl ?_
                              refine r_callSL (st := []) (As := [.ref (ad G 0), .int (1 + (nI v - nI v / 9 * 9))]) (M := mL_passHours) (pc' := 304) h dL_acts_301 rfl lL_133 wL_passHours rfl rfl (Nat.le_of_ble_eq_true rfl) (rrb rfl) (kL_passHours hD hvD (chg_hours hR hB (1 + (nI v - nI v / 9 * 9))).2 (fun S1 y hD1 hR1 => K_int ?_))
                              refine r_istore (pc' := 306) h dL_acts_304 rfl (by decide) rfl ?_
                              exact fin S1 _ _ _ _ _ (by decide) (by decide) hD1 (chg_hours hR hB (1 + (nI v - nI v / 9 * 9))).1 (zCh_cnt hR (chg_hours hR hB (1 + (nI v - nI v / 9 * 9))).1 h0) hR1
theorem kL_build {l : Launch} {G : GX} {N : Nat} {S : Nat → va_E} {K : RK} {D : DM} {Q : MM} (hD : isD G N S D) (hR : Rel 0 0 D Q) (he : empF (dF D 0)) (hL : gSl G ≤ 260) (hk : ∀ S1 D1 Q1, isD G N S1 D1 → Rel 1152 0 D1 Q1 → 0 < fN (dF D1 0) → DR S S1 → K (.inl none) S1) : RetK l G N mL_build (11, 260, 96, 576) [.ref (ad G 0), .ref (gSa G)] S K := by
  refine ret_enter (by decide +kernel) (Nat.le_of_ble_eq_true rfl) (fun X hX h hm => ?_)
  subst hX
  replace h : OK X G N cL_build RL 4 (11, 260, 96, 576) := h
  replace hm : OKm X G N K none (11, 260, 96, 576) := hm
  show AW X G 4 N 0 [(0, _), (1, _)] [] S 0 0
  have l3 : ∀ (n j : Nat), j ≤ 12 → 12 - j < n → ∀ S1 D1 Q1 (y : Int32), isD G N S1 D1 → Rel (48 * (12 + j)) 0 D1 Q1 → 0 < fN (dF D1 0) → DR S S1 → AW X G 4 N 127 [(0, .ref (ad G 0)), (1, .ref (gSa G)), (2, .int y), (3, .int (nI j))] [] S1 (4 * (12 + j)) (24 * (12 + j)) := by
    intro n
    induction n with
    | zero => intro j h1 h2; exact absurd h2 (by omega)
    | succ n ih =>
      intro j h1 h2 S1 D1 Q1 y hD1 hR1 hc1 hr1
      refine r_iload_n (pc' := 128) h dL_build_127 rfl rfl ?_
      refine r_bipush (pc' := 130) (v := 12) h dL_build_128 rfl (by decide) ?_
      refine r_icmp_ge (tgt := 150) (pc' := 133) h dL_build_130 (by decide) rfl (fun c0 => ?_) (fun c0 => ?_)
      · obtain rfl : j = 12 := lp_ge (c := j) rfl (by omega) (Nat.le_refl _) (Int32.le_refl _) |>.symm.trans (by
          have := (nI_leI (a := 12) (b := j) (by decide) (by omega)).mp c0
          omega)
        exact r_return h hm dL_build_150 (by decide) (by decide) (hk S1 D1 Q1 hD1 hR1 hc1 hr1)
      · have hj : j < 12 := by
          rcases Nat.lt_or_ge j 12 with z | z
          · exact z
          · exact absurd (nI_le z (by omega)) c0
        refine r_aload_n (pc' := 134) h dL_build_133 rfl rfl ?_
        refine r_aload_n (pc' := 135) h dL_build_134 rfl rfl ?_
        refine r_bipush (pc' := 137) (v := 44) h dL_build_135 rfl (by decide) ?_
        refine r_iconst (pc' := 138) (v := 4) h dL_build_137 rfl (by decide) ?_
        refine r_iload_n (pc' := 139) h dL_build_138 rfl rfl ?_
        refine r_imul (pc' := 140) h dL_build_139 rfl ?_
        refine r_iadd (pc' := 141) h dL_build_140 rfl ?_
        rw [show (44 : Int32) + 4 * nI j = nI (44 + 4 * j) from by rw [show (4 : Int32) * nI j = nI (4 * j) from pk_mul 4 j]; exact nI_add 44 (4 * j)]
        refine r_callSK (st := []) (As := [.ref (ad G 0), .ref (gSa G), .int (nI (44 + 4 * j))]) (M := mL_acts) (pc' := 144) h dL_build_141 rfl lL_104 vL_acts rfl rfl (Nat.le_of_ble_eq_true rfl) ⟨by decide, by decide, by show 4 * (12 + j) + 4 ≤ 96; omega, by show 24 * (12 + j) + 24 ≤ 576; omega⟩ (kL_acts (by omega) hD1 hR1 hc1 (by omega) hL (fun S2 D2 Q2 hD2 hR2 hc2 hr2 => K_nil ?_))
        refine r_iinc (pc' := 147) (v := 1) h dL_build_144 rfl (by decide) (by decide) rfl rfl ?_
        refine r_goto (tgt := 127) h dL_build_147 (by decide) ?_
        rw [nI_1]
        exact ih (j + 1) (by omega) (by omega) S2 D2 Q2 y hD2 (by rw [show 48 * (12 + (j + 1)) = 48 * (12 + j) + 48 by omega]; exact hR2) hc2 (hr1.trans hr2)
  have l2 : ∀ (n j : Nat), j ≤ 3 → 3 - j < n → ∀ S1 D1 Q1 (y : Int32), isD G N S1 D1 → Rel (48 * (9 + j)) 0 D1 Q1 → 0 < fN (dF D1 0) → DR S S1 → AW X G 4 N 74 [(0, .ref (ad G 0)), (1, .ref (gSa G)), (2, .int y), (3, .int (nI j))] [] S1 (4 * (9 + j)) (24 * (9 + j)) := by
    intro n
    induction n with
    | zero => intro j h1 h2; exact absurd h2 (by omega)
    | succ n ih =>
      intro j h1 h2 S1 D1 Q1 y hD1 hR1 hc1 hr1
      refine r_iload_n (pc' := 75) h dL_build_74 rfl rfl ?_
      refine r_iconst (pc' := 76) (v := 3) h dL_build_75 rfl (by decide) ?_
      refine r_icmp_ge (tgt := 125) (pc' := 79) h dL_build_76 (by decide) rfl (fun c0 => ?_) (fun c0 => ?_)
      · obtain rfl : j = 3 := by
          have := (nI_leI (a := 3) (b := j) (by decide) (by omega)).mp c0
          omega
        refine r_iconst (pc' := 126) (v := 0) h dL_build_125 rfl (by decide) ?_
        refine r_istoren (j := 3) (pc' := 127) h rfl dL_build_126 rfl (by decide) rfl ?_
        exact l3 13 0 (by decide) (by decide) S1 D1 Q1 y hD1 hR1 hc1 hr1
      · have hj : j < 3 := by
          rcases Nat.lt_or_ge j 3 with z | z
          · exact z
          · exact absurd (nI_le z (by omega)) c0
        refine r_aload_n (pc' := 80) h dL_build_79 rfl rfl ?_
        refine r_aload_n (pc' := 81) h dL_build_80 rfl rfl ?_
        refine r_bipush (pc' := 83) (v := 32) h dL_build_81 rfl (by decide) ?_
        refine r_iload_n (pc' := 84) h dL_build_83 rfl rfl ?_
        refine r_iadd (pc' := 85) h dL_build_84 rfl ?_
        rw [show (32 : Int32) + nI j = nI (32 + j) from nI_add 32 j]
        refine r_bipush (pc' := 87) (v := 24) h dL_build_85 rfl (by decide) ?_
        refine r_callSK (st := [.ref (ad G 0)]) (As := [.ref (gSa G), .int (nI (32 + j)), .int (nI 24)]) (M := mL_some) (pc' := 90) h dL_build_87 rfl lL_88 vL_some rfl rfl (Nat.le_of_ble_eq_true rfl) ⟨by decide, by decide, by show 4 * (9 + j) + 0 ≤ 96; omega, by show 24 * (9 + j) + 0 ≤ 576; omega⟩ (kL_some (nz (by omega)) (by decide) (by decide) hL (fun v1 hv1 => K_int ?_))
        refine r_iconst (pc' := 91) (v := 1) h dL_build_90 rfl (by decide) ?_
        refine r_aload_n (pc' := 92) h dL_build_91 rfl rfl ?_
        refine r_bipush (pc' := 94) (v := 36) h dL_build_92 rfl (by decide) ?_
        refine r_iload_n (pc' := 95) h dL_build_94 rfl rfl ?_
        refine r_iadd (pc' := 96) h dL_build_95 rfl ?_
        rw [show (36 : Int32) + nI j = nI (36 + j) from nI_add 36 j]
        refine r_bipush (pc' := 98) (v := 50) h dL_build_96 rfl (by decide) ?_
        refine r_callSK (st := [.int 1, .int (nI v1), .ref (ad G 0)]) (As := [.ref (gSa G), .int (nI (36 + j)), .int (nI 50)]) (M := mL_some) (pc' := 101) h dL_build_98 rfl lL_88 vL_some rfl rfl (Nat.le_of_ble_eq_true rfl) ⟨by decide, by decide, by show 4 * (9 + j) + 0 ≤ 96; omega, by show 24 * (9 + j) + 0 ≤ 576; omega⟩ (kL_some (nz (by omega)) (by decide) (by decide) hL (fun v2 hv2 => K_int ?_))
        refine r_iadd (pc' := 102) h dL_build_101 rfl ?_
        refine r_iconst (pc' := 103) (v := 1) h dL_build_102 rfl (by decide) ?_
        refine r_aload_n (pc' := 104) h dL_build_103 rfl rfl ?_
        refine r_bipush (pc' := 106) (v := 40) h dL_build_104 rfl (by decide) ?_
        refine r_iload_n (pc' := 107) h dL_build_106 rfl rfl ?_
        refine r_iadd (pc' := 108) h dL_build_107 rfl ?_
        rw [show (40 : Int32) + nI j = nI (40 + j) from nI_add 40 j]
        refine r_sipush (pc' := 111) (v := 500) h dL_build_108 rfl (by decide) ?_
        refine r_callSK (st := [.int 1, .int (1 + nI v2), .int (nI v1), .ref (ad G 0)]) (As := [.ref (gSa G), .int (nI (40 + j)), .int (nI 500)]) (M := mL_some) (pc' := 114) h dL_build_111 rfl lL_88 vL_some rfl rfl (Nat.le_of_ble_eq_true rfl) ⟨by decide, by decide, by show 4 * (9 + j) + 0 ≤ 96; omega, by show 24 * (9 + j) + 0 ≤ 576; omega⟩ (kL_some (nz (by omega)) (by decide) (by decide) hL (fun v3 hv3 => K_int ?_))
        refine r_iadd (pc' := 115) h dL_build_114 rfl ?_
        refine r_callSL (st := []) (As := [.ref (ad G 0), .int (nI v1), .int (1 + nI v2), .int (1 + nI v3)]) (M := mL_placeBid) (pc' := 118) h dL_build_115 rfl lL_102 wL_placeBid rfl rfl (Nat.le_of_ble_eq_true rfl) ⟨by decide, by decide, by show 4 * (9 + j) + 4 ≤ 96; omega, by show 24 * (9 + j) + 24 ≤ 576; omega⟩ (kL_placeBid hD1 hR1.v (chg_bid hR1 (nI v1) (1 + nI v2) (1 + nI v3)).2 (fun S2 y2 hD2 hr2 => K_int ?_))
        refine r_istoren (j := 2) (pc' := 119) h rfl dL_build_118 rfl (by decide) rfl ?_
        refine r_iinc (pc' := 122) (v := 1) h dL_build_119 rfl (by decide) (by decide) rfl rfl ?_
        refine r_goto (tgt := 74) h dL_build_122 (by decide) ?_
        rw [nI_1]
        exact ih (j + 1) (by omega) (by omega) S2 _ _ y2 hD2 (by rw [show 48 * (9 + (j + 1)) = 48 * (9 + j) + 48 by omega]; exact (chg_bid hR1 (nI v1) (1 + nI v2) (1 + nI v3)).1) (zCh_cnt hR1 (chg_bid hR1 (nI v1) (1 + nI v2) (1 + nI v3)).1 hc1) (hr1.trans hr2)
  have end1 : ∀ S1 D1 Q1 (lo2 : List (Nat × Value)), lget 0 lo2 = some (.ref (ad G 0)) → lget 1 lo2 = some (.ref (gSa G)) → (∀ y : Int32, ∃ lo3, lset 2 (.int y) false lo2 = some lo3 ∧ lset 3 (.int 0) false lo3 = some [(0, .ref (ad G 0)), (1, .ref (gSa G)), (3, .int 0), (2, .int y)]) → isD G N S1 D1 → Rel (48 * 8) 0 D1 Q1 → 0 < fN (dF D1 0) → DR S S1 → AW X G 4 N 47 lo2 [] S1 (4 * 8) (24 * 8) := by
    intro S1 D1 Q1 lo2 g0 g1 g2 hD1 hR1 hc1 hr1
    refine r_aload_n (pc' := 48) h dL_build_47 rfl g0 ?_
    refine r_aload_n (pc' := 49) h dL_build_48 rfl g1 ?_
    refine r_bipush (pc' := 51) (v := 30) h dL_build_49 rfl (by decide) ?_
    refine r_iconst (pc' := 52) (v := 4) h dL_build_51 rfl (by decide) ?_
    refine r_callSK (st := [.ref (ad G 0)]) (As := [.ref (gSa G), .int (nI 30), .int (nI 4)]) (M := mL_some) (pc' := 55) h dL_build_52 rfl lL_88 vL_some rfl rfl (Nat.le_of_ble_eq_true rfl) (rrb rfl) (kL_some (nz (by omega)) (by decide) (by decide) hL (fun v1 hv1 => K_int ?_))
    refine r_callSK (st := [.ref (ad G 0)]) (As := [.int (nI v1)]) (M := mL_way) (pc' := 58) h dL_build_55 rfl lL_95 vL_way rfl rfl (Nat.le_of_ble_eq_true rfl) (rrb rfl) (kL_way (K_int ?_))
    refine r_iconst (pc' := 59) (v := 3) h dL_build_58 rfl (by decide) ?_
    refine r_aload_n (pc' := 60) h dL_build_59 rfl g1 ?_
    refine r_bipush (pc' := 62) (v := 31) h dL_build_60 rfl (by decide) ?_
    refine r_bipush (pc' := 64) (v := 20) h dL_build_62 rfl (by decide) ?_
    refine r_callSK (st := [.int 3, .int (wayI (nI v1)), .ref (ad G 0)]) (As := [.ref (gSa G), .int (nI 31), .int (nI 20)]) (M := mL_some) (pc' := 67) h dL_build_64 rfl lL_88 vL_some rfl rfl (Nat.le_of_ble_eq_true rfl) (rrb rfl) (kL_some (nz (by omega)) (by decide) (by decide) hL (fun v2 hv2 => K_int ?_))
    refine r_iadd (pc' := 68) h dL_build_67 rfl ?_
    refine r_callSL (st := []) (As := [.ref (ad G 0), .int (wayI (nI v1)), .int (3 + nI v2)]) (M := mL_setWind) (pc' := 71) h dL_build_68 rfl lL_99 wL_setWind rfl rfl (Nat.le_of_ble_eq_true rfl) (rrb rfl) (kL_setWind hD1 hR1.v (wayI_ch _) (chg_wind hR1 (wayI (nI v1)) (3 + nI v2)).2 (fun S2 y2 hD2 hr2 => K_int ?_))
    obtain ⟨lo3, k1, k2⟩ := g2 y2
    refine r_istoren (j := 2) (pc' := 72) h rfl dL_build_71 rfl (by decide) k1 ?_
    refine r_iconst (pc' := 73) (v := 0) h dL_build_72 rfl (by decide) ?_
    refine r_istoren (j := 3) (pc' := 74) h rfl dL_build_73 rfl (by decide) k2 ?_
    refine r_sub (lo' := [(0, _), (1, _), (2, _), (3, _)]) [0, 1, 3, 2] rfl ?_
    exact l2 4 0 (by decide) (by decide) S2 _ _ y2 hD2 (chg_wind hR1 (wayI (nI v1)) (3 + nI v2)).1 (zCh_cnt hR1 (chg_wind hR1 (wayI (nI v1)) (3 + nI v2)).1 hc1) (hr1.trans hr2)
  have l1 : ∀ (n j : Nat), j ≤ 8 → 8 - j < n → ∀ S1 D1 Q1 lo1, (lo1 = [(0, .ref (ad G 0)), (1, .ref (gSa G)), (3, .int (nI j))] ∨ ∃ y : Int32, lo1 = [(0, .ref (ad G 0)), (1, .ref (gSa G)), (3, .int (nI j)), (2, .int y)]) → isD G N S1 D1 → Rel (48 * j) 0 D1 Q1 → (j = 0 → empF (dF D1 0)) → (0 < j → 0 < fN (dF D1 0)) → DR S S1 → AW X G 4 N 2 lo1 [] S1 (4 * j) (24 * j) := by
    intro n
    induction n with
    | zero => intro j h1 h2; exact absurd h2 (by omega)
    | succ n ih =>
      intro j h1 h2 S1 D1 Q1 lo1 hlo hD1 hR1 hem hc1 hr1
      have key : ∀ lo2 : List (Nat × Value), lget 0 lo2 = some (.ref (ad G 0)) → lget 1 lo2 = some (.ref (gSa G)) → lget 3 lo2 = some (.int (nI j)) → (∀ y : Int32, ∃ lo3, lset 2 (.int y) false lo2 = some lo3 ∧ lget 3 lo3 = some (.int (nI j)) ∧ lset 3 (.int (nI j + 1)) false lo3 = some [(0, .ref (ad G 0)), (1, .ref (gSa G)), (3, .int (nI (j + 1))), (2, .int y)]) → (j = 8 → AW X G 4 N 47 lo2 [] S1 (4 * j) (24 * j)) → AW X G 4 N 2 lo2 [] S1 (4 * j) (24 * j) := by
        intro lo2 g0 g1 g3 g2 gx
        refine r_iload_n (pc' := 3) h dL_build_2 rfl g3 ?_
        refine r_bipush (pc' := 5) (v := 8) h dL_build_3 rfl (by decide) ?_
        refine r_icmp_ge (tgt := 47) (pc' := 8) h dL_build_5 (by decide) rfl (fun c0 => ?_) (fun c0 => ?_)
        · exact gx (by
            have := (nI_leI (a := 8) (b := j) (by decide) (by omega)).mp c0
            omega)
        · have hj : j < 8 := by
            rcases Nat.lt_or_ge j 8 with z | z
            · exact z
            · exact absurd (nI_le z (by omega)) c0
          refine r_aload_n (pc' := 9) h dL_build_8 rfl g0 ?_
          refine r_aload_n (pc' := 10) h dL_build_9 rfl g1 ?_
          refine r_iload_n (pc' := 11) h dL_build_10 rfl g3 ?_
          refine r_iconst (pc' := 12) (v := 5) h dL_build_11 rfl (by decide) ?_
          refine r_callSK (st := [.ref (ad G 0)]) (As := [.ref (gSa G), .int (nI j), .int (nI 5)]) (M := mL_some) (pc' := 15) h dL_build_12 rfl lL_88 vL_some rfl rfl (Nat.le_of_ble_eq_true rfl) ⟨by decide, by decide, by show 4 * j + 0 ≤ 96; omega, by show 24 * j + 0 ≤ 576; omega⟩ (kL_some (nz (by omega)) (by decide) (by decide) hL (fun v1 hv1 => K_int ?_))
          refine r_aload_n (pc' := 16) h dL_build_15 rfl g1 ?_
          refine r_bipush (pc' := 18) (v := 10) h dL_build_16 rfl (by decide) ?_
          refine r_iload_n (pc' := 19) h dL_build_18 rfl g3 ?_
          refine r_iadd (pc' := 20) h dL_build_19 rfl ?_
          rw [show (10 : Int32) + nI j = nI (10 + j) from nI_add 10 j]
          refine r_bipush (pc' := 22) (v := 6) h dL_build_20 rfl (by decide) ?_
          refine r_callSK (st := [.int (nI v1), .ref (ad G 0)]) (As := [.ref (gSa G), .int (nI (10 + j)), .int (nI 6)]) (M := mL_some) (pc' := 25) h dL_build_22 rfl lL_88 vL_some rfl rfl (Nat.le_of_ble_eq_true rfl) ⟨by decide, by decide, by show 4 * j + 0 ≤ 96; omega, by show 24 * j + 0 ≤ 576; omega⟩ (kL_some (nz (by omega)) (by decide) (by decide) hL (fun v2 hv2 => K_int ?_))
          refine r_iconst (pc' := 26) (v := 1) h dL_build_25 rfl (by decide) ?_
          refine r_aload_n (pc' := 27) h dL_build_26 rfl g1 ?_
          refine r_bipush (pc' := 29) (v := 20) h dL_build_27 rfl (by decide) ?_
          refine r_iload_n (pc' := 30) h dL_build_29 rfl g3 ?_
          refine r_iadd (pc' := 31) h dL_build_30 rfl ?_
          rw [show (20 : Int32) + nI j = nI (20 + j) from nI_add 20 j]
          refine r_bipush (pc' := 33) (v := 9) h dL_build_31 rfl (by decide) ?_
          refine r_callSK (st := [.int 1, .int (nI v2), .int (nI v1), .ref (ad G 0)]) (As := [.ref (gSa G), .int (nI (20 + j)), .int (nI 9)]) (M := mL_some) (pc' := 36) h dL_build_33 rfl lL_88 vL_some rfl rfl (Nat.le_of_ble_eq_true rfl) ⟨by decide, by decide, by show 4 * j + 0 ≤ 96; omega, by show 24 * j + 0 ≤ 576; omega⟩ (kL_some (nz (by omega)) (by decide) (by decide) hL (fun v3 hv3 => K_int ?_))
          refine r_iadd (pc' := 37) h dL_build_36 rfl ?_
          rw [show (1 : Int32) + nI v3 = nI (1 + v3) from nI_add 1 v3]
          refine r_callSL (st := []) (As := [.ref (ad G 0), .int (nI v1), .int (nI v2), .int (nI (1 + v3))]) (M := mL_addTurbine) (pc' := 40) h dL_build_37 rfl lL_92 wL_addTurbine rfl rfl (Nat.le_of_ble_eq_true rfl) ⟨by decide, by decide, by show 4 * j + 4 ≤ 96; omega, by show 24 * j + 24 ≤ 576; omega⟩ (kL_addTurbine hD1 hR1.v (chg_add hR1 (nI v1) (nI v2) (nI (1 + v3))).2 (fun S2 y2 hD2 hr2 => K_int ?_))
          obtain ⟨lo3, k1, k2, k3⟩ := g2 y2
          refine r_istoren (j := 2) (pc' := 41) h rfl dL_build_40 rfl (by decide) k1 ?_
          refine r_iinc (pc' := 44) (v := 1) h dL_build_41 rfl (by decide) (by decide) k2 k3 ?_
          refine r_goto (tgt := 2) h dL_build_44 (by decide) ?_
          refine ih (j + 1) (by omega) (by omega) S2 _ _ _ (Or.inr ⟨y2, rfl⟩) hD2 (by rw [show 48 * (j + 1) = 48 * j + 48 by omega]; exact (chg_add hR1 (nI v1) (nI v2) (nI (1 + v3))).1) (fun z => absurd z (by omega)) (fun _ => ?_) (hr1.trans hr2)
          by_cases z : j = 0
          · exact emp_cnt (hem z) hv1 hv2 ⟨by omega, by omega⟩ (chg_add hR1 (nI v1) (nI v2) (nI (1 + v3))).1
          · exact zCh_cnt hR1 (chg_add hR1 (nI v1) (nI v2) (nI (1 + v3))).1 (hc1 (by omega))
      rcases hlo with rfl | ⟨y0, rfl⟩
      · refine key _ rfl rfl rfl (fun y => ⟨[(0, .ref (ad G 0)), (1, .ref (gSa G)), (3, .int (nI j)), (2, .int y)], rfl, rfl, by rw [nI_1]; rfl⟩) (fun z => ?_)
        subst z
        exact end1 S1 D1 Q1 _ rfl rfl (fun y => ⟨_, rfl, rfl⟩) hD1 hR1 (hc1 (by decide)) hr1
      · refine key _ rfl rfl rfl (fun y => ⟨[(0, .ref (ad G 0)), (1, .ref (gSa G)), (3, .int (nI j)), (2, .int y)], rfl, rfl, by rw [nI_1]; rfl⟩) (fun z => ?_)
        subst z
        exact end1 S1 D1 Q1 _ rfl rfl (fun y => ⟨_, rfl, rfl⟩) hD1 hR1 (hc1 (by decide)) hr1
  refine r_iconst (pc' := 1) (v := 0) h dL_build_0 rfl (by decide) ?_
  refine r_istoren (j := 3) (pc' := 2) h rfl dL_build_1 rfl (by decide) rfl ?_
  exact l1 9 0 (by decide) (by decide) S D Q _ (Or.inl rfl) hD hR (fun _ => he) (fun z => absurd z (by decide)) (fun _ _ => rfl)
