/-! THE WALKS: an order's change of a farm; texts; the history. -/
theorem kX1_carryOut {l : Launch} {G : GX} {N : Nat} {S : Nat → va_E} {K : RK} {b : Nat} {F : FM} (hF : isF G N S b F) (hw : wF F) {o x y z : Int32} (ha : ¬ x < 0) (hk : ∀ S1, isF G N S1 b (fCar F o x y z).1 → FR b S S1 → K (.inl (some (.int (fCar F o x y z).2))) S1) : RetK l G N mX1_carryOut (5, 120, 0, 0) [.ref (ad G b), .int o, .int x, .int y, .int z] S K := by
  refine ret_enter (by decide +kernel) (Nat.le_of_ble_eq_true rfl) (fun X hX h hm => ?_)
  subst hX
  replace h : OK X G N cX1_carryOut RX1 5 (5, 120, 0, 0) := h
  replace hm : OKm X G N K (some .int) (5, 120, 0, 0) := hm
  show AW X G 5 N 0 [(0, _), (1, _), (2, _), (3, _), (4, _)] [] S 0 0
  refine r_iload_n (pc' := 1) h dX1_carryOut_0 rfl rfl ?_
  refine r_tsw h dX1_carryOut_1 [(97, 107), (98, 172), (99, 135), (100, 162), (102, 116), (103, 156), (113, 181), (114, 129), (115, 122), (117, 142), (118, 167), (119, 148)] (by decide) (by decide) (by decide) (by decide) ?_
  refine ⟨fun e0 => ?_, fun e0 => ?_⟩
  · have e0 := Int32.toInt_inj.mp (e0.trans (by decide : (97 : Int) = Int32.toInt 97))
    show AW X G _ _ 108 _ _ _ _ _
    refine r_aload_n (pc' := 109) h dX1_carryOut_108 rfl rfl ?_
    refine r_iload_n (pc' := 110) h dX1_carryOut_109 rfl rfl ?_
    refine r_iload_n (pc' := 111) h dX1_carryOut_110 rfl rfl ?_
    refine r_iload (pc' := 113) h dX1_carryOut_111 rfl rfl ?_
    refine r_callV3 (pc' := 116) (M := mX1_add) h hm dX1_carryOut_113 rfl lX1_186 vX1_add rfl hF.l0 hF.o (Nat.le_of_ble_eq_true rfl) (rrb rfl) (kX1_add hF (fun S1 hF1 hR1 => ?_))
    show AW X G _ _ _ _ _ _ _ _
    refine r_ireturn h hm dX1_carryOut_116 (Nat.le_of_ble_eq_true rfl) (Nat.le_of_ble_eq_true rfl) ?_
    refine kF hk hF1 hR1 ?_
    rw [fCar]; first | (rw [if_pos e0]; done) | (rw [if_pos e0]; rfl) | (rw [if_neg e0]; done) | (rw [if_neg e0]; rfl)
  · have e0 : ¬ _ = (97 : Int32) := fun z => e0 ((congrArg Int32.toInt z).trans (by decide : Int32.toInt 97 = (97 : Int)))
    refine ⟨fun e1 => ?_, fun e1 => ?_⟩
    · have e1 := Int32.toInt_inj.mp (e1.trans (by decide : (98 : Int) = Int32.toInt 98))
      show AW X G _ _ 173 _ _ _ _ _
      refine r_aload_n (pc' := 174) h dX1_carryOut_173 rfl rfl ?_
      refine r_iload_n (pc' := 175) h dX1_carryOut_174 rfl rfl ?_
      refine r_iload_n (pc' := 176) h dX1_carryOut_175 rfl rfl ?_
      refine r_iload (pc' := 178) h dX1_carryOut_176 rfl rfl ?_
      refine r_callV3 (pc' := 181) (M := mX1_addBid) h hm dX1_carryOut_178 rfl lX1_217 vX1_addBid rfl hF.l0 hF.o (Nat.le_of_ble_eq_true rfl) (rrb rfl) (kX1_addBid hF (fun S2 hF2 hR2 => ?_))
      show AW X G _ _ _ _ _ _ _ _
      refine r_ireturn h hm dX1_carryOut_181 (Nat.le_of_ble_eq_true rfl) (Nat.le_of_ble_eq_true rfl) ?_
      refine kF hk hF2 hR2 ?_
      rw [fCar]; first | (rw [if_neg e0, if_pos e1]; done) | (rw [if_neg e0, if_pos e1]; rfl) | (rw [if_neg e0, if_neg e1]; done) | (rw [if_neg e0, if_neg e1]; rfl)
    · have e1 : ¬ _ = (98 : Int32) := fun z => e1 ((congrArg Int32.toInt z).trans (by decide : Int32.toInt 98 = (98 : Int)))
      refine ⟨fun e2 => ?_, fun e2 => ?_⟩
      · have e2 := Int32.toInt_inj.mp (e2.trans (by decide : (99 : Int) = Int32.toInt 99))
        show AW X G _ _ 136 _ _ _ _ _
        refine r_aload_n (pc' := 137) h dX1_carryOut_136 rfl rfl ?_
        refine r_iload_n (pc' := 138) h dX1_carryOut_137 rfl rfl ?_
        refine r_iload_n (pc' := 139) h dX1_carryOut_138 rfl rfl ?_
        refine r_callV2 (pc' := 142) (M := mX1_changeLimit) h hm dX1_carryOut_139 rfl lX1_198 vX1_changeLimit rfl hF.l0 hF.o (Nat.le_of_ble_eq_true rfl) (rrb rfl) (kX1_changeLimit hF (fun S3 hF3 hR3 => ?_))
        show AW X G _ _ _ _ _ _ _ _
        refine r_ireturn h hm dX1_carryOut_142 (Nat.le_of_ble_eq_true rfl) (Nat.le_of_ble_eq_true rfl) ?_
        refine kF hk hF3 hR3 ?_
        rw [fCar]; first | (rw [if_neg e0, if_neg e1, if_pos e2]; done) | (rw [if_neg e0, if_neg e1, if_pos e2]; rfl) | (rw [if_neg e0, if_neg e1, if_neg e2]; done) | (rw [if_neg e0, if_neg e1, if_neg e2]; rfl)
      · have e2 : ¬ _ = (99 : Int32) := fun z => e2 ((congrArg Int32.toInt z).trans (by decide : Int32.toInt 99 = (99 : Int)))
        refine ⟨fun e3 => ?_, fun e3 => ?_⟩
        · have e3 := Int32.toInt_inj.mp (e3.trans (by decide : (100 : Int) = Int32.toInt 100))
          show AW X G _ _ 163 _ _ _ _ _
          refine r_aload_n (pc' := 164) h dX1_carryOut_163 rfl rfl ?_
          refine r_callV0 (pc' := 167) (M := mX1_limitToGrid) h hm dX1_carryOut_164 rfl lX1_211 vX1_limitToGrid rfl hF.l0 hF.o (Nat.le_of_ble_eq_true rfl) (rrb rfl) (kX1_limitToGrid hF hw (fun S4 hF4 hR4 => ?_))
          show AW X G _ _ _ _ _ _ _ _
          refine r_ireturn h hm dX1_carryOut_167 (Nat.le_of_ble_eq_true rfl) (Nat.le_of_ble_eq_true rfl) ?_
          refine kF hk hF4 hR4 ?_
          rw [fCar]; first | (rw [if_neg e0, if_neg e1, if_neg e2, if_pos e3]; done) | (rw [if_neg e0, if_neg e1, if_neg e2, if_pos e3]; rfl) | (rw [if_neg e0, if_neg e1, if_neg e2, if_neg e3]; done) | (rw [if_neg e0, if_neg e1, if_neg e2, if_neg e3]; rfl)
        · have e3 : ¬ _ = (100 : Int32) := fun z => e3 ((congrArg Int32.toInt z).trans (by decide : Int32.toInt 100 = (100 : Int)))
          refine ⟨fun e4 => ?_, fun e4 => ?_⟩
          · have e4 := Int32.toInt_inj.mp (e4.trans (by decide : (102 : Int) = Int32.toInt 102))
            show AW X G _ _ 117 _ _ _ _ _
            refine r_aload_n (pc' := 118) h dX1_carryOut_117 rfl rfl ?_
            refine r_iload_n (pc' := 119) h dX1_carryOut_118 rfl rfl ?_
            refine r_callV1 (pc' := 122) (M := mX1_breakDown) h hm dX1_carryOut_119 rfl lX1_189 vX1_breakDown rfl hF.l0 hF.o (Nat.le_of_ble_eq_true rfl) (rrb rfl) (kX1_breakDown hF hw (fun S5 hF5 hR5 => ?_))
            show AW X G _ _ _ _ _ _ _ _
            refine r_ireturn h hm dX1_carryOut_122 (Nat.le_of_ble_eq_true rfl) (Nat.le_of_ble_eq_true rfl) ?_
            refine kF hk hF5 hR5 ?_
            rw [fCar]; first | (rw [if_neg e0, if_neg e1, if_neg e2, if_neg e3, if_pos e4]; done) | (rw [if_neg e0, if_neg e1, if_neg e2, if_neg e3, if_pos e4]; rfl) | (rw [if_neg e0, if_neg e1, if_neg e2, if_neg e3, if_neg e4]; done) | (rw [if_neg e0, if_neg e1, if_neg e2, if_neg e3, if_neg e4]; rfl)
          · have e4 : ¬ _ = (102 : Int32) := fun z => e4 ((congrArg Int32.toInt z).trans (by decide : Int32.toInt 102 = (102 : Int)))
            refine ⟨fun e5 => ?_, fun e5 => ?_⟩
            · have e5 := Int32.toInt_inj.mp (e5.trans (by decide : (103 : Int) = Int32.toInt 103))
              show AW X G _ _ 157 _ _ _ _ _
              refine r_aload_n (pc' := 158) h dX1_carryOut_157 rfl rfl ?_
              refine r_iload_n (pc' := 159) h dX1_carryOut_158 rfl rfl ?_
              refine r_callV1 (pc' := 162) (M := mX1_changeGridLimit) h hm dX1_carryOut_159 rfl lX1_208 vX1_changeGridLimit rfl hF.l0 hF.o (Nat.le_of_ble_eq_true rfl) (rrb rfl) (kX1_changeGridLimit hF (fun S6 hF6 hR6 => ?_))
              show AW X G _ _ _ _ _ _ _ _
              refine r_ireturn h hm dX1_carryOut_162 (Nat.le_of_ble_eq_true rfl) (Nat.le_of_ble_eq_true rfl) ?_
              refine kF hk hF6 hR6 ?_
              rw [fCar]; first | (rw [if_neg e0, if_neg e1, if_neg e2, if_neg e3, if_neg e4, if_pos e5]; done) | (rw [if_neg e0, if_neg e1, if_neg e2, if_neg e3, if_neg e4, if_pos e5]; rfl) | (rw [if_neg e0, if_neg e1, if_neg e2, if_neg e3, if_neg e4, if_neg e5]; done) | (rw [if_neg e0, if_neg e1, if_neg e2, if_neg e3, if_neg e4, if_neg e5]; rfl)
            · have e5 : ¬ _ = (103 : Int32) := fun z => e5 ((congrArg Int32.toInt z).trans (by decide : Int32.toInt 103 = (103 : Int)))
              refine ⟨fun e6 => ?_, fun e6 => ?_⟩
              · have e6 := Int32.toInt_inj.mp (e6.trans (by decide : (113 : Int) = Int32.toInt 113))
                show AW X G _ _ 182 _ _ _ _ _
                refine r_aload_n (pc' := 183) h dX1_carryOut_182 rfl rfl ?_
                refine r_iload_n (pc' := 184) h dX1_carryOut_183 rfl rfl ?_
                refine r_callV1 (pc' := 187) (M := mX1_removeBid) h hm dX1_carryOut_184 rfl lX1_220 vX1_removeBid rfl hF.l0 hF.o (Nat.le_of_ble_eq_true rfl) (rrb rfl) (kX1_removeBid hF (fun S7 hF7 hR7 => ?_))
                show AW X G _ _ _ _ _ _ _ _
                refine r_ireturn h hm dX1_carryOut_187 (Nat.le_of_ble_eq_true rfl) (Nat.le_of_ble_eq_true rfl) ?_
                refine kF hk hF7 hR7 ?_
                rw [fCar]; first | (rw [if_neg e0, if_neg e1, if_neg e2, if_neg e3, if_neg e4, if_neg e5, if_pos e6]; done) | (rw [if_neg e0, if_neg e1, if_neg e2, if_neg e3, if_neg e4, if_neg e5, if_pos e6]; rfl) | (rw [if_neg e0, if_neg e1, if_neg e2, if_neg e3, if_neg e4, if_neg e5, if_neg e6]; done) | (rw [if_neg e0, if_neg e1, if_neg e2, if_neg e3, if_neg e4, if_neg e5, if_neg e6]; rfl)
              · have e6 : ¬ _ = (113 : Int32) := fun z => e6 ((congrArg Int32.toInt z).trans (by decide : Int32.toInt 113 = (113 : Int)))
                refine ⟨fun e7 => ?_, fun e7 => ?_⟩
                · have e7 := Int32.toInt_inj.mp (e7.trans (by decide : (114 : Int) = Int32.toInt 114))
                  show AW X G _ _ 130 _ _ _ _ _
                  refine r_aload_n (pc' := 131) h dX1_carryOut_130 rfl rfl ?_
                  refine r_iload_n (pc' := 132) h dX1_carryOut_131 rfl rfl ?_
                  refine r_callV1 (pc' := 135) (M := mX1_stopService) h hm dX1_carryOut_132 rfl lX1_195 vX1_stopService rfl hF.l0 hF.o (Nat.le_of_ble_eq_true rfl) (rrb rfl) (kX1_stopService hF (fun S8 hF8 hR8 => ?_))
                  show AW X G _ _ _ _ _ _ _ _
                  refine r_ireturn h hm dX1_carryOut_135 (Nat.le_of_ble_eq_true rfl) (Nat.le_of_ble_eq_true rfl) ?_
                  refine kF hk hF8 hR8 ?_
                  rw [fCar]; first | (rw [if_neg e0, if_neg e1, if_neg e2, if_neg e3, if_neg e4, if_neg e5, if_neg e6, if_pos e7]; done) | (rw [if_neg e0, if_neg e1, if_neg e2, if_neg e3, if_neg e4, if_neg e5, if_neg e6, if_pos e7]; rfl) | (rw [if_neg e0, if_neg e1, if_neg e2, if_neg e3, if_neg e4, if_neg e5, if_neg e6, if_neg e7]; done) | (rw [if_neg e0, if_neg e1, if_neg e2, if_neg e3, if_neg e4, if_neg e5, if_neg e6, if_neg e7]; rfl)
                · have e7 : ¬ _ = (114 : Int32) := fun z => e7 ((congrArg Int32.toInt z).trans (by decide : Int32.toInt 114 = (114 : Int)))
                  refine ⟨fun e8 => ?_, fun e8 => ?_⟩
                  · have e8 := Int32.toInt_inj.mp (e8.trans (by decide : (115 : Int) = Int32.toInt 115))
                    show AW X G _ _ 123 _ _ _ _ _
                    refine r_aload_n (pc' := 124) h dX1_carryOut_123 rfl rfl ?_
                    refine r_iload_n (pc' := 125) h dX1_carryOut_124 rfl rfl ?_
                    refine r_iload_n (pc' := 126) h dX1_carryOut_125 rfl rfl ?_
                    refine r_callV2 (pc' := 129) (M := mX1_startService) h hm dX1_carryOut_126 rfl lX1_192 vX1_startService rfl hF.l0 hF.o (Nat.le_of_ble_eq_true rfl) (rrb rfl) (kX1_startService hF hw (fun S9 hF9 hR9 => ?_))
                    show AW X G _ _ _ _ _ _ _ _
                    refine r_ireturn h hm dX1_carryOut_129 (Nat.le_of_ble_eq_true rfl) (Nat.le_of_ble_eq_true rfl) ?_
                    refine kF hk hF9 hR9 ?_
                    rw [fCar]; first | (rw [if_neg e0, if_neg e1, if_neg e2, if_neg e3, if_neg e4, if_neg e5, if_neg e6, if_neg e7, if_pos e8]; done) | (rw [if_neg e0, if_neg e1, if_neg e2, if_neg e3, if_neg e4, if_neg e5, if_neg e6, if_neg e7, if_pos e8]; rfl) | (rw [if_neg e0, if_neg e1, if_neg e2, if_neg e3, if_neg e4, if_neg e5, if_neg e6, if_neg e7, if_neg e8]; done) | (rw [if_neg e0, if_neg e1, if_neg e2, if_neg e3, if_neg e4, if_neg e5, if_neg e6, if_neg e7, if_neg e8]; rfl)
                  · have e8 : ¬ _ = (115 : Int32) := fun z => e8 ((congrArg Int32.toInt z).trans (by decide : Int32.toInt 115 = (115 : Int)))
                    refine ⟨fun e9 => ?_, fun e9 => ?_⟩
                    · have e9 := Int32.toInt_inj.mp (e9.trans (by decide : (117 : Int) = Int32.toInt 117))
                      show AW X G _ _ 143 _ _ _ _ _
                      refine r_aload_n (pc' := 144) h dX1_carryOut_143 rfl rfl ?_
                      refine r_iload_n (pc' := 145) h dX1_carryOut_144 rfl rfl ?_
                      refine r_callV1 (pc' := 148) (M := mX1_endLimit) h hm dX1_carryOut_145 rfl lX1_201 vX1_endLimit rfl hF.l0 hF.o (Nat.le_of_ble_eq_true rfl) (rrb rfl) (kX1_endLimit hF (fun S10 hF10 hR10 => ?_))
                      show AW X G _ _ _ _ _ _ _ _
                      refine r_ireturn h hm dX1_carryOut_148 (Nat.le_of_ble_eq_true rfl) (Nat.le_of_ble_eq_true rfl) ?_
                      refine kF hk hF10 hR10 ?_
                      rw [fCar]; first | (rw [if_neg e0, if_neg e1, if_neg e2, if_neg e3, if_neg e4, if_neg e5, if_neg e6, if_neg e7, if_neg e8, if_pos e9]; done) | (rw [if_neg e0, if_neg e1, if_neg e2, if_neg e3, if_neg e4, if_neg e5, if_neg e6, if_neg e7, if_neg e8, if_pos e9]; rfl) | (rw [if_neg e0, if_neg e1, if_neg e2, if_neg e3, if_neg e4, if_neg e5, if_neg e6, if_neg e7, if_neg e8, if_neg e9]; done) | (rw [if_neg e0, if_neg e1, if_neg e2, if_neg e3, if_neg e4, if_neg e5, if_neg e6, if_neg e7, if_neg e8, if_neg e9]; rfl)
                    · have e9 : ¬ _ = (117 : Int32) := fun z => e9 ((congrArg Int32.toInt z).trans (by decide : Int32.toInt 117 = (117 : Int)))
                      refine ⟨fun e10 => ?_, fun e10 => ?_⟩
                      · have e10 := Int32.toInt_inj.mp (e10.trans (by decide : (118 : Int) = Int32.toInt 118))
                        show AW X G _ _ 168 _ _ _ _ _
                        refine r_aload_n (pc' := 169) h dX1_carryOut_168 rfl rfl ?_
                        refine r_callV0 (pc' := 172) (M := mX1_endAllLimits) h hm dX1_carryOut_169 rfl lX1_214 vX1_endAllLimits rfl hF.l0 hF.o (Nat.le_of_ble_eq_true rfl) (rrb rfl) (kX1_endAllLimits hF hw (fun S11 hF11 hR11 => ?_))
                        show AW X G _ _ _ _ _ _ _ _
                        refine r_ireturn h hm dX1_carryOut_172 (Nat.le_of_ble_eq_true rfl) (Nat.le_of_ble_eq_true rfl) ?_
                        refine kF hk hF11 hR11 ?_
                        rw [fCar]; first | (rw [if_neg e0, if_neg e1, if_neg e2, if_neg e3, if_neg e4, if_neg e5, if_neg e6, if_neg e7, if_neg e8, if_neg e9, if_pos e10]; done) | (rw [if_neg e0, if_neg e1, if_neg e2, if_neg e3, if_neg e4, if_neg e5, if_neg e6, if_neg e7, if_neg e8, if_neg e9, if_pos e10]; rfl) | (rw [if_neg e0, if_neg e1, if_neg e2, if_neg e3, if_neg e4, if_neg e5, if_neg e6, if_neg e7, if_neg e8, if_neg e9, if_neg e10]; done) | (rw [if_neg e0, if_neg e1, if_neg e2, if_neg e3, if_neg e4, if_neg e5, if_neg e6, if_neg e7, if_neg e8, if_neg e9, if_neg e10]; rfl)
                      · have e10 : ¬ _ = (118 : Int32) := fun z => e10 ((congrArg Int32.toInt z).trans (by decide : Int32.toInt 118 = (118 : Int)))
                        refine ⟨fun e11 => ?_, fun e11 => ?_⟩
                        · have e11 := Int32.toInt_inj.mp (e11.trans (by decide : (119 : Int) = Int32.toInt 119))
                          show AW X G _ _ 149 _ _ _ _ _
                          refine r_aload_n (pc' := 150) h dX1_carryOut_149 rfl rfl ?_
                          refine r_iload_n (pc' := 151) h dX1_carryOut_150 rfl rfl ?_
                          refine r_i2c (pc' := 152) h dX1_carryOut_151 rfl ?_
                          refine r_iload_n (pc' := 153) h dX1_carryOut_152 rfl rfl ?_
                          refine r_callV2 (pc' := 156) (M := mX1_turnWind) h hm dX1_carryOut_153 rfl lX1_204 vX1_turnWind rfl hF.l0 hF.o (Nat.le_of_ble_eq_true rfl) (rrb rfl) (kX1_turnWind hF hw (isCh_chr _) (fun S12 hF12 hR12 => ?_))
                          show AW X G _ _ _ _ _ _ _ _
                          refine r_ireturn h hm dX1_carryOut_156 (Nat.le_of_ble_eq_true rfl) (Nat.le_of_ble_eq_true rfl) ?_
                          refine kF hk hF12 hR12 ?_
                          rw [fCar]; first | (rw [if_neg e0, if_neg e1, if_neg e2, if_neg e3, if_neg e4, if_neg e5, if_neg e6, if_neg e7, if_neg e8, if_neg e9, if_neg e10, if_pos e11]; done) | (rw [if_neg e0, if_neg e1, if_neg e2, if_neg e3, if_neg e4, if_neg e5, if_neg e6, if_neg e7, if_neg e8, if_neg e9, if_neg e10, if_pos e11]; rfl) | (rw [if_neg e0, if_neg e1, if_neg e2, if_neg e3, if_neg e4, if_neg e5, if_neg e6, if_neg e7, if_neg e8, if_neg e9, if_neg e10, if_neg e11]; done) | (rw [if_neg e0, if_neg e1, if_neg e2, if_neg e3, if_neg e4, if_neg e5, if_neg e6, if_neg e7, if_neg e8, if_neg e9, if_neg e10, if_neg e11]; rfl)
                        · have e11 : ¬ _ = (119 : Int32) := fun z => e11 ((congrArg Int32.toInt z).trans (by decide : Int32.toInt 119 = (119 : Int)))
                          show AW X G _ _ 188 _ _ _ _ _
                          refine r_aload_n (pc' := 189) h dX1_carryOut_188 rfl rfl ?_
                          refine r_iload_n (pc' := 190) h dX1_carryOut_189 rfl rfl ?_
                          refine r_callV1 (pc' := 193) (M := mX1_pass) h hm dX1_carryOut_190 rfl lX1_223 vX1_pass rfl hF.l0 hF.o (Nat.le_of_ble_eq_true rfl) (rrb rfl) (kX1_passX hF hw ha (fun S13 hF13 hR13 => ?_))
                          show AW X G _ _ _ _ _ _ _ _
                          refine r_ireturn h hm dX1_carryOut_193 (Nat.le_of_ble_eq_true rfl) (Nat.le_of_ble_eq_true rfl) ?_
                          refine kF hk hF13 hR13 ?_
                          rw [fCar]; first | (rw [if_neg e0, if_neg e1, if_neg e2, if_neg e3, if_neg e4, if_neg e5, if_neg e6, if_neg e7, if_neg e8, if_neg e9, if_neg e10, if_pos e11]; done) | (rw [if_neg e0, if_neg e1, if_neg e2, if_neg e3, if_neg e4, if_neg e5, if_neg e6, if_neg e7, if_neg e8, if_neg e9, if_neg e10, if_pos e11]; rfl) | (rw [if_neg e0, if_neg e1, if_neg e2, if_neg e3, if_neg e4, if_neg e5, if_neg e6, if_neg e7, if_neg e8, if_neg e9, if_neg e10, if_neg e11]; done) | (rw [if_neg e0, if_neg e1, if_neg e2, if_neg e3, if_neg e4, if_neg e5, if_neg e6, if_neg e7, if_neg e8, if_neg e9, if_neg e10, if_neg e11]; rfl)
theorem kX3_clear {l : Launch} {G : GX} {N : Nat} {S : Nat → va_E} {K : RK} {b : Nat} {T : TX} (hT : isT G N S b T) (hk : ∀ S1, isT G N S1 b (((0, T.2) : TX)) → TR b S S1 → K (.inl none) S1) : RetK l G N mX3_clear (0, 0, 0, 0) [.ref (ad G b)] S K := by
  refine ret_enter (by decide +kernel) (Nat.le_of_ble_eq_true rfl) (fun X hX h hm => ?_)
  subst hX
  replace h : OK X G N cX3_clear RX3 1 (0, 0, 0, 0) := h
  replace hm : OKm X G N K none (0, 0, 0, 0) := hm
  show AW X G 1 N 0 [(0, _)] [] S 0 0
  refine r_aload_n (pc' := 1) h dX3_clear_0 rfl rfl ?_
  refine r_iconst (pc' := 2) (v := 0) h dX3_clear_1 rfl (by decide) ?_
  refine pX3_15 (pc' := 5) h dX3_clear_2 rfl hT.l0 hT.o (Nat.le_of_ble_eq_true rfl) ?_
  refine wT0 hT (fun S1 hT1 hR1 => ?_)
  refine r_return h hm dX3_clear_5 (Nat.le_of_ble_eq_true rfl) (Nat.le_of_ble_eq_true rfl) ?_
  exact hk _ hT1 hR1
theorem kX3_add {l : Launch} {G : GX} {N : Nat} {S : Nat → va_E} {K : RK} {b : Nat} {T : TX} (hT : isT G N S b T) {c : Int32} (hk : ∀ S1, isT G N S1 b (tAdd T c) → TR b S S1 → K (.inl none) S1) : RetK l G N mX3_add (0, 0, 0, 0) [.ref (ad G b), .int c] S K := by
  refine ret_enter (by decide +kernel) (Nat.le_of_ble_eq_true rfl) (fun X hX h hm => ?_)
  subst hX
  replace h : OK X G N cX3_add RX3 2 (0, 0, 0, 0) := h
  replace hm : OKm X G N K none (0, 0, 0, 0) := hm
  show AW X G 2 N 0 [(0, _), (1, _)] [] S 0 0
  refine r_aload_n (pc' := 1) h dX3_add_0 rfl rfl ?_
  refine gX3_15 (pc' := 4) h dX3_add_1 rfl hT.l0 hT.o rfl ?_
  refine r_if_lt (tgt := 39) (pc' := 7) h dX3_add_4 (by decide) rfl (fun c0 => ?_) (fun c0 => ?_)
  · refine r_return h hm dX3_add_39 (Nat.le_of_ble_eq_true rfl) (Nat.le_of_ble_eq_true rfl) ?_
    exact hk _ (by rw [tAdd, if_pos c0]; exact hT) TR.rfl'
  · refine r_aload_n (pc' := 8) h dX3_add_7 rfl rfl ?_
    refine gX3_15 (pc' := 11) h dX3_add_8 rfl hT.l0 hT.o rfl ?_
    refine r_aload_n (pc' := 12) h dX3_add_11 rfl rfl ?_
    refine gX3_9 (pc' := 15) h dX3_add_12 rfl hT.l0 hT.o rfl ?_
    refine r_alen (pc' := 16) (t := 1) h dX3_add_15 rfl hT.l1 hT.r rfl ?_
    refine r_icmp_ge (tgt := 39) (pc' := 19) h dX3_add_16 (by decide) rfl (fun c1 => ?_) (fun c1 => ?_)
    · refine r_return h hm dX3_add_39 (Nat.le_of_ble_eq_true rfl) (Nat.le_of_ble_eq_true rfl) ?_
      exact hk _ (by rw [tAdd, if_neg c0, if_pos c1]; exact hT) TR.rfl'
    · refine r_aload_n (pc' := 20) h dX3_add_19 rfl rfl ?_
      refine gX3_9 (pc' := 23) h dX3_add_20 rfl hT.l0 hT.o rfl ?_
      refine r_aload_n (pc' := 24) h dX3_add_23 rfl rfl ?_
      refine gX3_15 (pc' := 27) h dX3_add_24 rfl hT.l0 hT.o rfl ?_
      refine r_iload_n (pc' := 28) h dX3_add_27 rfl rfl ?_
      refine r_cast (pc' := 29) h dX3_add_28 rfl hT.l1 hT.r (vp_in_c (by decide) c0 c1) ?_
      refine wT1 hT (fun S1 hT1 hR1 => ?_)
      refine r_aload_n (pc' := 30) h dX3_add_29 rfl rfl ?_
      refine r_dup (pc' := 31) h dX3_add_30 rfl rfl ?_
      refine gX3_15 (pc' := 34) h dX3_add_31 rfl hT1.l0 hT1.o rfl ?_
      refine r_iconst (pc' := 35) (v := 1) h dX3_add_34 rfl (by decide) ?_
      refine r_iadd (pc' := 36) h dX3_add_35 rfl ?_
      refine pX3_15 (pc' := 39) h dX3_add_36 rfl hT1.l0 hT1.o (Nat.le_of_ble_eq_true rfl) ?_
      refine wT0 hT1 (fun S2 hT2 hR2 => ?_)
      refine r_return h hm dX3_add_39 (Nat.le_of_ble_eq_true rfl) (Nat.le_of_ble_eq_true rfl) ?_
      exact hk _ (by rw [tAdd, if_neg c0, if_neg c1]; exact hT2) (hR1.trans hR2)
theorem kX3_addNumber {l : Launch} {G : GX} {N : Nat} {S : Nat → va_E} {K : RK} {b : Nat} {T : TX} (hT : isT G N S b T) {v : Int32} (hk : ∀ S1, isT G N S1 b (tNum T v) → TR b S S1 → K (.inl none) S1) : RetK l G N mX3_addNumber (1, 21, 0, 0) [.ref (ad G b), .int v] S K := by
  refine ret_enter (by decide +kernel) (Nat.le_of_ble_eq_true rfl) (fun X hX h hm => ?_)
  subst hX
  replace h : OK X G N cX3_addNumber RX3 2 (1, 21, 0, 0) := h
  replace hm : OKm X G N K none (1, 21, 0, 0) := hm
  show AW X G 2 N 0 [(0, _), (1, _)] [] S 0 0
  refine r_iload_n (pc' := 1) h dX3_addNumber_0 rfl rfl ?_
  refine r_bipush (pc' := 3) (v := 10) h dX3_addNumber_1 rfl (by decide) ?_
  refine r_icmp_lt (tgt := 21) (pc' := 6) h dX3_addNumber_3 (by decide) rfl (fun c0 => ?_) (fun c0 => ?_)
  · skip
    refine r_aload_n (pc' := 22) h dX3_addNumber_21 rfl rfl ?_
    refine r_bipush (pc' := 24) (v := 48) h dX3_addNumber_22 rfl (by decide) ?_
    refine r_iload_n (pc' := 25) h dX3_addNumber_24 rfl rfl ?_
    refine r_bipush (pc' := 27) (v := 10) h dX3_addNumber_25 rfl (by decide) ?_
    refine r_irem (pc' := 28) h dX3_addNumber_27 rfl (by decide) ?_
    refine r_iadd (pc' := 29) h dX3_addNumber_28 rfl ?_
    refine r_i2c (pc' := 30) h dX3_addNumber_29 rfl ?_
    refine r_callV1 (pc' := 33) (M := mX3_add) h hm dX3_addNumber_30 rfl lX3_19 vX3_add rfl hT.l0 hT.o (Nat.le_of_ble_eq_true rfl) (rrb rfl) (kX3_add hT (fun S1 hT1 hR1 => ?_))
    show AW X G _ _ _ _ _ _ _ _
    refine r_return h hm dX3_addNumber_33 (Nat.le_of_ble_eq_true rfl) (Nat.le_of_ble_eq_true rfl) ?_
    exact hk _ (by rw [tNum, tNu1, if_pos c0]; exact hT1) hR1
  · skip
    refine r_aload_n (pc' := 7) h dX3_addNumber_6 rfl rfl ?_
    refine r_bipush (pc' := 9) (v := 48) h dX3_addNumber_7 rfl (by decide) ?_
    refine r_iload_n (pc' := 10) h dX3_addNumber_9 rfl rfl ?_
    refine r_bipush (pc' := 12) (v := 10) h dX3_addNumber_10 rfl (by decide) ?_
    refine r_idiv (pc' := 13) h dX3_addNumber_12 rfl (by decide) ?_
    refine r_bipush (pc' := 15) (v := 10) h dX3_addNumber_13 rfl (by decide) ?_
    refine r_irem (pc' := 16) h dX3_addNumber_15 rfl (by decide) ?_
    refine r_iadd (pc' := 17) h dX3_addNumber_16 rfl ?_
    refine r_i2c (pc' := 18) h dX3_addNumber_17 rfl ?_
    refine r_callV1 (pc' := 21) (M := mX3_add) h hm dX3_addNumber_18 rfl lX3_19 vX3_add rfl hT.l0 hT.o (Nat.le_of_ble_eq_true rfl) (rrb rfl) (kX3_add hT (fun S2 hT2 hR2 => ?_))
    show AW X G _ _ _ _ _ _ _ _
    refine r_aload_n (pc' := 22) h dX3_addNumber_21 rfl rfl ?_
    refine r_bipush (pc' := 24) (v := 48) h dX3_addNumber_22 rfl (by decide) ?_
    refine r_iload_n (pc' := 25) h dX3_addNumber_24 rfl rfl ?_
    refine r_bipush (pc' := 27) (v := 10) h dX3_addNumber_25 rfl (by decide) ?_
    refine r_irem (pc' := 28) h dX3_addNumber_27 rfl (by decide) ?_
    refine r_iadd (pc' := 29) h dX3_addNumber_28 rfl ?_
    refine r_i2c (pc' := 30) h dX3_addNumber_29 rfl ?_
    refine r_callV1 (pc' := 33) (M := mX3_add) h hm dX3_addNumber_30 rfl lX3_19 vX3_add rfl hT2.l0 hT2.o (Nat.le_of_ble_eq_true rfl) (rrb rfl) (kX3_add hT2 (fun S3 hT3 hR3 => ?_))
    show AW X G _ _ _ _ _ _ _ _
    refine r_return h hm dX3_addNumber_33 (Nat.le_of_ble_eq_true rfl) (Nat.le_of_ble_eq_true rfl) ?_
    exact hk _ (by rw [tNum, tNu1, if_neg c0]; exact hT3) (hR2.trans hR3)
theorem kX3_signAt {l : Launch} {G : GX} {N : Nat} {S : Nat → va_E} {K : RK} {b : Nat} {T : TX} (hT : isT G N S b T) {i : Int32} (hch : rowC T.2) (hk : K (.inl (some (.int (tSig T i)))) S) : RetK l G N mX3_signAt (0, 0, 0, 0) [.ref (ad G b), .int i] S K := by
  refine ret_enter (by decide +kernel) (Nat.le_of_ble_eq_true rfl) (fun X hX h hm => ?_)
  subst hX
  replace h : OK X G N cX3_signAt RX3 2 (0, 0, 0, 0) := h
  replace hm : OKm X G N K (some .char) (0, 0, 0, 0) := hm
  show AW X G 2 N 0 [(0, _), (1, _)] [] S 0 0
  refine r_iload_n (pc' := 1) h dX3_signAt_0 rfl rfl ?_
  refine r_if_lt (tgt := 30) (pc' := 4) h dX3_signAt_1 (by decide) rfl (fun c0 => ?_) (fun c0 => ?_)
  · refine r_iconst (pc' := 31) (v := 0) h dX3_signAt_30 rfl (by decide) ?_
    refine r_zreturn h hm dX3_signAt_31 (Nat.le_of_ble_eq_true rfl) (Nat.le_of_ble_eq_true rfl) (by first | exact (hch _).1 | rfl) ?_
    exact kI hk (by first | rfl | contradiction | simp [tSig, c0])
  · refine r_iload_n (pc' := 5) h dX3_signAt_4 rfl rfl ?_
    refine r_aload_n (pc' := 6) h dX3_signAt_5 rfl rfl ?_
    refine gX3_15 (pc' := 9) h dX3_signAt_6 rfl hT.l0 hT.o rfl ?_
    refine r_icmp_ge (tgt := 30) (pc' := 12) h dX3_signAt_9 (by decide) rfl (fun c1 => ?_) (fun c1 => ?_)
    · refine r_iconst (pc' := 31) (v := 0) h dX3_signAt_30 rfl (by decide) ?_
      refine r_zreturn h hm dX3_signAt_31 (Nat.le_of_ble_eq_true rfl) (Nat.le_of_ble_eq_true rfl) (by first | exact (hch _).1 | rfl) ?_
      exact kI hk (by first | rfl | contradiction | simp [tSig, c0, c1])
    · refine r_iload_n (pc' := 13) h dX3_signAt_12 rfl rfl ?_
      refine r_aload_n (pc' := 14) h dX3_signAt_13 rfl rfl ?_
      refine gX3_9 (pc' := 17) h dX3_signAt_14 rfl hT.l0 hT.o rfl ?_
      refine r_alen (pc' := 18) (t := 1) h dX3_signAt_17 rfl hT.l1 hT.r rfl ?_
      refine r_icmp_ge (tgt := 30) (pc' := 21) h dX3_signAt_18 (by decide) rfl (fun c2 => ?_) (fun c2 => ?_)
      · refine r_iconst (pc' := 31) (v := 0) h dX3_signAt_30 rfl (by decide) ?_
        refine r_zreturn h hm dX3_signAt_31 (Nat.le_of_ble_eq_true rfl) (Nat.le_of_ble_eq_true rfl) (by first | exact (hch _).1 | rfl) ?_
        exact kI hk (by first | rfl | contradiction | simp [tSig, c0, c1, c2])
      · refine r_aload_n (pc' := 22) h dX3_signAt_21 rfl rfl ?_
        refine gX3_9 (pc' := 25) h dX3_signAt_22 rfl hT.l0 hT.o rfl ?_
        refine r_iload_n (pc' := 26) h dX3_signAt_25 rfl rfl ?_
        refine r_cald (pc' := 27) h dX3_signAt_26 rfl hT.l1 hT.r (vp_in_c (by decide) c0 c2) ?_
        refine r_goto (tgt := 31) h dX3_signAt_27 (by decide) ?_
        refine r_zreturn h hm dX3_signAt_31 (Nat.le_of_ble_eq_true rfl) (Nat.le_of_ble_eq_true rfl) (by first | exact (hch _).1 | rfl) ?_
        exact kI hk (by first | rfl | contradiction | simp [tSig, c0, c1, c2])
theorem kX2_farmAt {l : Launch} {G : GX} {N : Nat} {S : Nat → va_E} {K : RK} {D : DM} (hD : isD G N S D) {j : Nat} (hj : j < 8) (hk : K (.inl (some (.ref (ad G (33 + 10 * j))))) S) : RetK l G N mX2_farmAt (0, 0, 0, 0) [.ref (ad G 31), .int (nI j)] S K := by
  refine ret_enter (by decide +kernel) (Nat.le_of_ble_eq_true rfl) (fun X hX h hm => ?_)
  subst hX
  replace h : OK X G N cX2_farmAt RX2 2 (0, 0, 0, 0) := h
  replace hm : OKm X G N K (some (.object "WindFarmDispatcher$Farm")) (0, 0, 0, 0) := hm
  show AW X G 2 N 0 [(0, _), (1, _)] [] S 0 0
  refine r_iload_n (pc' := 1) h dX2_farmAt_0 rfl rfl ?_
  refine r_if_lt (tgt := 22) (pc' := 4) h dX2_farmAt_1 (by decide) rfl (fun c0 => ?_) (fun c0 => ?_)
  · exact absurd c0 (nI_pos (by omega))
  · refine r_iload_n (pc' := 5) h dX2_farmAt_4 rfl rfl ?_
    refine r_aload_n (pc' := 6) h dX2_farmAt_5 rfl rfl ?_
    refine gX2_11 (pc' := 9) h dX2_farmAt_6 rfl hD.l31 hD.o31 rfl ?_
    refine r_alen (pc' := 10) (t := 4) h dX2_farmAt_9 rfl hD.l32 hD.o32 rfl ?_
    refine r_icmp_ge (tgt := 22) (pc' := 13) h dX2_farmAt_10 (by decide) rfl (fun c1 => ?_) (fun c1 => ?_)
    · exact absurd c1 (nI_ge hj (show (8 : Nat) < 2 ^ 31 by decide))
    · refine r_aload_n (pc' := 14) h dX2_farmAt_13 rfl rfl ?_
      refine gX2_11 (pc' := 17) h dX2_farmAt_14 rfl hD.l31 hD.o31 rfl ?_
      refine r_iload_n (pc' := 18) h dX2_farmAt_17 rfl rfl ?_
      refine r_aald (pc' := 19) h dX2_farmAt_18 rfl hD.l32 hD.o32 (vp_in_nI hj (by decide)) ?_
      rw [nI_clamp (by omega)]
      refine r_goto (tgt := 23) h dX2_farmAt_19 (by decide) ?_
      refine r_areturn h hm dX2_farmAt_23 (Nat.le_of_ble_eq_true rfl) (Nat.le_of_ble_eq_true rfl) (Or.inr ⟨_, rfl⟩) ?_
      exact hk
theorem kX2_keep {l : Launch} {G : GX} {N : Nat} {S : Nat → va_E} {K : RK} {D : DM} (hD : isD G N S D) {j : Nat} (hj : j < 8) (h5 : dI D 5 = nI j) (hn0 : nF (dF D 0)) (hn1 : nF (dF D (3 + j))) (hch : isCh (fI (dF D 0) 1)) (hk : ∀ S1, isD G N S1 (hKp D j) → DR S S1 → K (.inl none) S1) : RetK l G N mX2_keep (2, 43, 0, 0) [.ref (ad G 31), .ref (ad G 1)] S K := by
  refine ret_enter (by decide +kernel) (Nat.le_of_ble_eq_true rfl) (fun X hX h hm => ?_)
  subst hX
  replace h : OK X G N cX2_keep RX2 3 (2, 43, 0, 0) := h
  replace hm : OKm X G N K none (2, 43, 0, 0) := hm
  show AW X G 3 N 0 [(0, _), (1, _)] [] S 0 0
  refine r_aload_n (pc' := 1) h dX2_keep_0 rfl rfl ?_
  refine r_aload_n (pc' := 2) h dX2_keep_1 rfl rfl ?_
  refine gX2_18 (pc' := 5) h dX2_keep_2 rfl hD.l31 hD.o31 rfl ?_
  refine aw_st (by rw [h5]) ?_
  refine r_callV1 (pc' := 8) (M := mX2_farmAt) h hm dX2_keep_5 rfl lX2_22 vX2_farmAt rfl hD.l31 hD.o31 (Nat.le_of_ble_eq_true rfl) (rrb rfl) (kX2_farmAt hD hj ?_)
  show AW X G _ _ _ _ _ _ _ _
  refine r_astoren (j := 2) (pc' := 9) h rfl dX2_keep_8 rfl (by decide) rfl ?_
  refine r_aload_n (pc' := 10) h dX2_keep_9 rfl rfl ?_
  refine r_ifnull (pc' := 13) h dX2_keep_10 rfl ?_
  refine r_aload_n (pc' := 14) h dX2_keep_13 rfl rfl ?_
  refine r_aload_n (pc' := 15) h dX2_keep_14 rfl rfl ?_
  refine r_callV1 (pc' := 18) (M := mX1_copyFrom) h hm dX2_keep_15 rfl lX2_26 vX1_copyFrom rfl (hD.fk hj).l0 (hD.fk hj).o (Nat.le_of_ble_eq_true rfl) (rrb rfl) (kX1_copyFrom (hD.fk hj) hD.f0 (by omega) hn1 hn0 hch (fun S1 hF1 hFR1 => ?_))
  have hD1 := isD.uk hj hD hF1 hFR1
  have hR1 := DR.f hFR1 (by omega)
  show AW X G _ _ _ _ _ _ _ _
  refine r_aload_n (pc' := 19) h dX2_keep_18 rfl rfl ?_
  refine r_aload_n (pc' := 20) h dX2_keep_19 rfl rfl ?_
  refine gX2_18 (pc' := 23) h dX2_keep_20 rfl hD1.l31 hD1.o31 rfl ?_
  refine r_iconst (pc' := 24) (v := 1) h dX2_keep_23 rfl (by decide) ?_
  refine r_iadd (pc' := 25) h dX2_keep_24 rfl ?_
  refine r_bipush (pc' := 27) (v := 8) h dX2_keep_25 rfl (by decide) ?_
  refine r_irem (pc' := 28) h dX2_keep_27 rfl (by decide) ?_
  refine pX2_18 (pc' := 31) h dX2_keep_28 rfl hD1.l31 hD1.o31 (Nat.le_of_ble_eq_true rfl) ?_
  refine wD5 hD1 (fun S2 hD2 hR2 => ?_)
  refine r_aload_n (pc' := 32) h dX2_keep_31 rfl rfl ?_
  refine r_aload_n (pc' := 33) h dX2_keep_32 rfl rfl ?_
  refine gX2_30 (pc' := 36) h dX2_keep_33 rfl hD2.l31 hD2.o31 rfl ?_
  refine r_iconst (pc' := 37) (v := 1) h dX2_keep_36 rfl (by decide) ?_
  refine r_iadd (pc' := 38) h dX2_keep_37 rfl ?_
  refine r_bipush (pc' := 40) (v := 8) h dX2_keep_38 rfl (by decide) ?_
  refine r_min (pc' := 43) (own := RX2) h dX2_keep_40 rfl lX2_33 (rrm rfl) ?_
  refine pX2_30 (pc' := 46) h dX2_keep_43 rfl hD2.l31 hD2.o31 (Nat.le_of_ble_eq_true rfl) ?_
  refine wD6 hD2 (fun S3 hD3 hR3 => ?_)
  refine r_return h hm dX2_keep_46 (Nat.le_of_ble_eq_true rfl) (Nat.le_of_ble_eq_true rfl) ?_
  refine hk _ ?_ (((hR1).trans hR2).trans hR3)
  have e9 := hD3
  have e8 : nI j + 1 - (nI j + 1) / 8 * 8 = nI ((j + 1) % 8) := by rw [nI_1]; exact pk_rem (by omega) (by decide) (by decide)
  simp only [dI_sF, dI_sD] at e9
  rw [h5, e8] at e9
  exact e9
theorem kX2_takeBack {l : Launch} {G : GX} {N : Nat} {S : Nat → va_E} {K : RK} {D : DM} (hD : isD G N S D) {j : Nat} (hj : j < 8) (h5 : dI D 5 = nI j) (hn0 : nF (dF D 0)) (hn1 : nF (dF D (3 + (j + 7) % 8))) (hch : isCh (fI (dF D (3 + (j + 7) % 8)) 1)) (h6 : ¬ dI D 6 ≤ 0) (hk : ∀ S1, isD G N S1 (hTb D j) → DR S S1 → K (.inl none) S1) : RetK l G N mX2_takeBack (2, 43, 0, 0) [.ref (ad G 31), .ref (ad G 1)] S K := by
  refine ret_enter (by decide +kernel) (Nat.le_of_ble_eq_true rfl) (fun X hX h hm => ?_)
  subst hX
  replace h : OK X G N cX2_takeBack RX2 4 (2, 43, 0, 0) := h
  replace hm : OKm X G N K none (2, 43, 0, 0) := hm
  show AW X G 4 N 0 [(0, _), (1, _)] [] S 0 0
  refine r_aload_n (pc' := 1) h dX2_takeBack_0 rfl rfl ?_
  refine gX2_18 (pc' := 4) h dX2_takeBack_1 rfl hD.l31 hD.o31 rfl ?_
  refine r_bipush (pc' := 6) (v := 8) h dX2_takeBack_4 rfl (by decide) ?_
  refine r_iadd (pc' := 7) h dX2_takeBack_6 rfl ?_
  refine r_iconst (pc' := 8) (v := 1) h dX2_takeBack_7 rfl (by decide) ?_
  refine r_isub (pc' := 9) h dX2_takeBack_8 rfl ?_
  refine r_bipush (pc' := 11) (v := 8) h dX2_takeBack_9 rfl (by decide) ?_
  refine r_irem (pc' := 12) h dX2_takeBack_11 rfl (by decide) ?_
  refine r_istoren (j := 2) (pc' := 13) h rfl dX2_takeBack_12 rfl (by decide) rfl ?_
  have e8 : dI D 5 + 8 - 1 - (dI D 5 + 8 - 1) / 8 * 8 = nI ((j + 7) % 8) := by rw [h5, show (8 : Int32) = nI 8 from rfl, nI_add, show (1 : Int32) = nI 1 from rfl, pk_sub (by omega)]; exact pk_rem (by omega) (by decide) (by decide)
  have hi : (j + 7) % 8 < 8 := Nat.mod_lt _ (by decide)
  refine aw_cast (by rw [e8]) ?_
  refine r_aload_n (pc' := 14) h dX2_takeBack_13 rfl rfl ?_
  refine r_iload_n (pc' := 15) h dX2_takeBack_14 rfl rfl ?_
  refine r_callV1 (pc' := 18) (M := mX2_farmAt) h hm dX2_takeBack_15 rfl lX2_22 vX2_farmAt rfl hD.l31 hD.o31 (Nat.le_of_ble_eq_true rfl) (rrb rfl) (kX2_farmAt hD hi ?_)
  show AW X G _ _ _ _ _ _ _ _
  refine r_astoren (j := 3) (pc' := 19) h rfl dX2_takeBack_18 rfl (by decide) rfl ?_
  refine r_aload_n (pc' := 20) h dX2_takeBack_19 rfl rfl ?_
  refine r_ifnull (pc' := 23) h dX2_takeBack_20 rfl ?_
  refine r_aload_n (pc' := 24) h dX2_takeBack_23 rfl rfl ?_
  refine gX2_30 (pc' := 27) h dX2_takeBack_24 rfl hD.l31 hD.o31 rfl ?_
  refine r_if_le (tgt := 50) (pc' := 30) h dX2_takeBack_27 (by decide) rfl (fun c0 => ?_) (fun c0 => ?_)
  · exact absurd c0 h6
  · refine r_aload_n (pc' := 31) h dX2_takeBack_30 rfl rfl ?_
    refine r_aload_n (pc' := 32) h dX2_takeBack_31 rfl rfl ?_
    refine r_callV1 (pc' := 35) (M := mX1_copyFrom) h hm dX2_takeBack_32 rfl lX2_26 vX1_copyFrom rfl hD.f0.l0 hD.f0.o (Nat.le_of_ble_eq_true rfl) (rrb rfl) (kX1_copyFrom hD.f0 (hD.fk hi) (by omega) hn0 hn1 hch (fun S1 hF1 hFR1 => ?_))
    have hD1 := hD.u0 hF1 hFR1
    have hR1 := DR.f hFR1 (by decide)
    show AW X G _ _ _ _ _ _ _ _
    refine r_aload_n (pc' := 36) h dX2_takeBack_35 rfl rfl ?_
    refine r_iload_n (pc' := 37) h dX2_takeBack_36 rfl rfl ?_
    refine pX2_18 (pc' := 40) h dX2_takeBack_37 rfl hD1.l31 hD1.o31 (Nat.le_of_ble_eq_true rfl) ?_
    refine wD5 hD1 (fun S2 hD2 hR2 => ?_)
    refine r_aload_n (pc' := 41) h dX2_takeBack_40 rfl rfl ?_
    refine r_dup (pc' := 42) h dX2_takeBack_41 rfl rfl ?_
    refine gX2_30 (pc' := 45) h dX2_takeBack_42 rfl hD2.l31 hD2.o31 rfl ?_
    refine r_iconst (pc' := 46) (v := 1) h dX2_takeBack_45 rfl (by decide) ?_
    refine r_isub (pc' := 47) h dX2_takeBack_46 rfl ?_
    refine pX2_30 (pc' := 50) h dX2_takeBack_47 rfl hD2.l31 hD2.o31 (Nat.le_of_ble_eq_true rfl) ?_
    refine wD6 hD2 (fun S3 hD3 hR3 => ?_)
    refine r_return h hm dX2_takeBack_50 (Nat.le_of_ble_eq_true rfl) (Nat.le_of_ble_eq_true rfl) ?_
    exact hk _ hD3 (((hR1).trans hR2).trans hR3)
theorem kX2_forget {l : Launch} {G : GX} {N : Nat} {S : Nat → va_E} {K : RK} {D : DM} (hD : isD G N S D) (hk : ∀ S1, isD G N S1 (sD D 6 0) → DR S S1 → K (.inl none) S1) : RetK l G N mX2_forget (0, 0, 0, 0) [.ref (ad G 31)] S K := by
  refine ret_enter (by decide +kernel) (Nat.le_of_ble_eq_true rfl) (fun X hX h hm => ?_)
  subst hX
  replace h : OK X G N cX2_forget RX2 1 (0, 0, 0, 0) := h
  replace hm : OKm X G N K none (0, 0, 0, 0) := hm
  show AW X G 1 N 0 [(0, _)] [] S 0 0
  refine r_aload_n (pc' := 1) h dX2_forget_0 rfl rfl ?_
  refine r_iconst (pc' := 2) (v := 0) h dX2_forget_1 rfl (by decide) ?_
  refine pX2_30 (pc' := 5) h dX2_forget_2 rfl hD.l31 hD.o31 (Nat.le_of_ble_eq_true rfl) ?_
  refine wD6 hD (fun S1 hD1 hR1 => ?_)
  refine r_return h hm dX2_forget_5 (Nat.le_of_ble_eq_true rfl) (Nat.le_of_ble_eq_true rfl) ?_
  exact hk _ hD1 hR1
