/-! THE PURE LAYER 54: the law is read, the model: goes on, clauses -/
theorem U_188 {X : Int × (Int → Int)} {d : Nat} {Q : Int → XH → Prop} (hd : 1 ≤ d) (H : XH) (h : (1 ≤ H 67 32 ∧ H 67 32 ≤ 40) ∧ (((¬ H 67 27 = 3) → xq X d 188 Q 65 [(1, (0, H 86 (H 67 32 - 1))), (0, (2, 67))] [] H) ∧ (¬ (¬ H 67 27 = 3) → ((H 67 28 = 43) → xq X d 188 Q 49 [(1, (0, H 86 (H 67 32 - 1))), (0, (2, 67))] [] H) ∧ (¬ (H 67 28 = 43) → ((H 67 28 = 45) → xq X d 188 Q 49 [(1, (0, H 86 (H 67 32 - 1))), (0, (2, 67))] [] H) ∧ (¬ (H 67 28 = 45) → ((H 67 28 = 42) → xq X d 188 Q 49 [(1, (0, H 86 (H 67 32 - 1))), (0, (2, 67))] [] H) ∧ (¬ (H 67 28 = 42) → ((¬ H 67 28 = 47) → xq X d 188 Q 65 [(1, (0, H 86 (H 67 32 - 1))), (0, (2, 67))] [] H) ∧ (¬ (¬ H 67 28 = 47) → xq X d 188 Q 49 [(1, (0, H 86 (H 67 32 - 1))), (0, (2, 67))] [] H))))))) : xc X (d + 1) 188 [(2, 67)] H Q := by
  refine ⟨rfl, ?_⟩
  show xq X d 188 Q 100000 [(0, (2, 67))] [] H
  refine xq_run [4, 49, 57, 65, 77, 85, 109, 113, 116, 136, 139, 144, 173, 181, 191, 217, 221, 224, 235, 242, 245, 250] 300 ?_
  show xWM (xE X) xMC d 178 [(2, 67)] xKZ H _
  refine xc_in (s_178 (by omega) H (h.1) ?_)
  replace h := h.2
  show xq X d 188 Q 4 [(0, (2, 67))] [(0, H 86 (H 67 32 - 1))] H
  refine xq_run [4, 49, 57, 65, 77, 85, 109, 113, 116, 136, 139, 144, 173, 181, 191, 217, 221, 224, 235, 242, 245, 250] 300 ?_
  show ((¬ H 67 27 = 3) → xq X d 188 Q 65 [(1, (0, H 86 (H 67 32 - 1))), (0, (2, 67))] [] H) ∧ (¬ (¬ H 67 27 = 3) → ((H 67 28 = 43) → xq X d 188 Q 49 [(1, (0, H 86 (H 67 32 - 1))), (0, (2, 67))] [] H) ∧ (¬ (H 67 28 = 43) → ((H 67 28 = 45) → xq X d 188 Q 49 [(1, (0, H 86 (H 67 32 - 1))), (0, (2, 67))] [] H) ∧ (¬ (H 67 28 = 45) → ((H 67 28 = 42) → xq X d 188 Q 49 [(1, (0, H 86 (H 67 32 - 1))), (0, (2, 67))] [] H) ∧ (¬ (H 67 28 = 42) → ((¬ H 67 28 = 47) → xq X d 188 Q 65 [(1, (0, H 86 (H 67 32 - 1))), (0, (2, 67))] [] H) ∧ (¬ (¬ H 67 28 = 47) → xq X d 188 Q 49 [(1, (0, H 86 (H 67 32 - 1))), (0, (2, 67))] [] H)))))
  refine ⟨fun k_ => ?_, fun k_ => ?_⟩
  · replace h := h.1 k_
    exact h
  · replace h := h.2 k_
    refine ⟨fun k_ => ?_, fun k_ => ?_⟩
    · replace h := h.1 k_
      exact h
    · replace h := h.2 k_
      refine ⟨fun k_ => ?_, fun k_ => ?_⟩
      · replace h := h.1 k_
        exact h
      · replace h := h.2 k_
        refine ⟨fun k_ => ?_, fun k_ => ?_⟩
        · replace h := h.1 k_
          exact h
        · replace h := h.2 k_
          refine ⟨fun k_ => ?_, fun k_ => ?_⟩
          · replace h := h.1 k_
            exact h
          · replace h := h.2 k_
            exact h
theorem U_188_65 {X : Int × (Int → Int)} {d : Nat} {Q : Int → XH → Prop} (hd : 1 ≤ d) (v1 : Int) (H : XH) (h : ((¬ v1 = 6) → xq X d 188 Q 116 [(1, (0, v1)), (0, (2, 67))] [] H) ∧ (¬ (¬ v1 = 6) → ((((H 67 27 = 3 ∧ H 67 28 = 41)) → (xc X d 183 [(2, 67), (0, 3)] H (fun (J1297 : Int) (h1296 : XH) => (xI ((h1296 67 32) - 1)) ∧ (xI ((h1296 67 31) - 1)) ∧ (xc X d 171 [(2, 67)] (xup (xup h1296 67 32 ((h1296 67 32) - 1)) 67 31 ((h1296 67 31) - 1)) (fun (J1299 : Int) (h1298 : XH) => (xc X d 179 [(2, 67)] h1298 (fun (J1301 : Int) (h1300 : XH) => Q 0 h1300))))))) ∧ (¬ ((H 67 27 = 3 ∧ H 67 28 = 41)) → xq X d 188 Q 116 [(1, (0, v1)), (0, (2, 67))] [] H)))) : xq X d 188 Q 65 [(1, (0, v1)), (0, (2, 67))] [] H := by
  show xq X d 188 Q 65 [(1, (0, v1)), (0, (2, 67))] [] H
  refine xq_run [4, 49, 57, 65, 77, 85, 109, 113, 116, 136, 139, 144, 173, 181, 191, 217, 221, 224, 235, 242, 245, 250] 300 ?_
  show ((¬ v1 = 6) → xq X d 188 Q 116 [(1, (0, v1)), (0, (2, 67))] [] H) ∧ (¬ (¬ v1 = 6) → xWM (xE X) xMC d 180 [(2, 67), (0, 41)] xKZ H _)
  refine ⟨fun k_ => ?_, fun k_ => ?_⟩
  · replace h := h.1 k_
    exact h
  · replace h := h.2 k_
    refine xc_in (s_180 (by omega) 41 H  ?_)
    replace h := h
    show xq X d 188 Q 77 [(1, (0, v1)), (0, (2, 67))] [(0, xb (H 67 27 = 3 ∧ H 67 28 = 41))] H
    refine xq_run [4, 49, 57, 65, 77, 85, 109, 113, 116, 136, 139, 144, 173, 181, 191, 217, 221, 224, 235, 242, 245, 250] 300 ?_
    show ((xb (H 67 27 = 3 ∧ H 67 28 = 41) = 0) → xq X d 188 Q 116 [(1, (0, v1)), (0, (2, 67))] [] H) ∧ (¬ (xb (H 67 27 = 3 ∧ H 67 28 = 41) = 0) → xWM (xE X) xMC d 183 [(2, 67), (0, 3)] xKZ H _)
    refine ⟨fun k_ => ?_, fun k_ => ?_⟩
    · replace h := h.2 (xbe_0.mp k_)
      exact h
    · replace h := h.1 (xbe_1.mp k_)
      refine xc_in (xc_mono (fun J1297 h1296 q_ => ?_) h)
      replace h := q_
      show xq X d 188 Q 85 [(1, (0, v1)), (0, (2, 67))] [] h1296
      refine xq_run [4, 49, 57, 65, 77, 85, 109, 113, 116, 136, 139, 144, 173, 181, 191, 217, 221, 224, 235, 242, 245, 250] 300 ?_
      show (xI ((h1296 67 32) - 1)) ∧ (xI ((h1296 67 31) - 1)) ∧ xWM (xE X) xMC d 171 [(2, 67)] xKZ (xup (xup h1296 67 32 ((h1296 67 32) - 1)) 67 31 ((h1296 67 31) - 1)) _
      refine ⟨h.1, ?_⟩
      replace h := h.2
      refine ⟨h.1, ?_⟩
      replace h := h.2
      refine xc_in (xc_mono (fun J1299 h1298 q_ => ?_) h)
      replace h := q_
      show xq X d 188 Q 109 [(1, (0, v1)), (0, (2, 67))] [] h1298
      refine xq_run [4, 49, 57, 65, 77, 85, 109, 113, 116, 136, 139, 144, 173, 181, 191, 217, 221, 224, 235, 242, 245, 250] 300 ?_
      show xWM (xE X) xMC d 179 [(2, 67)] xKZ h1298 _
      refine xc_in (xc_mono (fun J1301 h1300 q_ => ?_) h)
      replace h := q_
      show xq X d 188 Q 113 [(1, (0, v1)), (0, (2, 67))] [] h1300
      refine xq_run [4, 49, 57, 65, 77, 85, 109, 113, 116, 136, 139, 144, 173, 181, 191, 217, 221, 224, 235, 242, 245, 250] 300 ?_
      show xq X d 188 Q 250 [(1, (0, v1)), (0, (2, 67))] [] h1300
      show xq X d 188 Q 250 [(1, (0, v1)), (0, (2, 67))] [] h1300
      refine xq_run [4, 49, 57, 65, 77, 85, 109, 113, 116, 136, 139, 144, 173, 181, 191, 217, 221, 224, 235, 242, 245, 250] 300 ?_
      show xfR 2 0 ∧ xKZ = xKZ ∧ Q 0 h1300
      exact ⟨trivial, rfl, h⟩
theorem U_188_49 {X : Int × (Int → Int)} {d : Nat} {Q : Int → XH → Prop} (hd : 0 ≤ d) (v1 : Int) (H : XH) (h : (xc X d 184 [(2, 67), (0, H 67 28)] H (fun (J1303 : Int) (h1302 : XH) => Q 0 (xup h1302 67 38 1)))) : xq X d 188 Q 49 [(1, (0, v1)), (0, (2, 67))] [] H := by
  show xq X d 188 Q 49 [(1, (0, v1)), (0, (2, 67))] [] H
  refine xq_run [4, 49, 57, 65, 77, 85, 109, 113, 116, 136, 139, 144, 173, 181, 191, 217, 221, 224, 235, 242, 245, 250] 300 ?_
  show xWM (xE X) xMC d 184 [(2, 67), (0, H 67 28)] xKZ H _
  refine xc_in (xc_mono (fun J1303 h1302 q_ => ?_) h)
  replace h := q_
  show xq X d 188 Q 57 [(1, (0, v1)), (0, (2, 67))] [] h1302
  refine xq_run [4, 49, 57, 65, 77, 85, 109, 113, 116, 136, 139, 144, 173, 181, 191, 217, 221, 224, 235, 242, 245, 250] 300 ?_
  show xq X d 188 Q 250 [(1, (0, v1)), (0, (2, 67))] [] (xup h1302 67 38 1)
  show xq X d 188 Q 250 [(1, (0, v1)), (0, (2, 67))] [] (xup h1302 67 38 1)
  refine xq_run [4, 49, 57, 65, 77, 85, 109, 113, 116, 136, 139, 144, 173, 181, 191, 217, 221, 224, 235, 242, 245, 250] 300 ?_
  show xfR 2 0 ∧ xKZ = xKZ ∧ Q 0 (xup h1302 67 38 1)
  exact ⟨trivial, rfl, h⟩
theorem U_188_116 {X : Int × (Int → Int)} {d : Nat} {Q : Int → XH → Prop} (hd : 1 ≤ d) (v1 : Int) (H : XH) (h : ((¬ v1 = 4) → xq X d 188 Q 181 [(1, (0, v1)), (0, (2, 67))] [] H) ∧ (¬ (¬ v1 = 4) → ((¬ H 67 27 = 3) → xq X d 188 Q 181 [(1, (0, v1)), (0, (2, 67))] [] H) ∧ (¬ (¬ H 67 27 = 3) → (((((H 67 28) = 60 ∨ (H 67 28) = 62 ∨ (H 67 28) = 61 ∨ (H 67 28) = 35 ∨ (H 67 28) = 300 ∨ (H 67 28) = 301)) → xq X d 188 Q 139 [(1, (0, v1)), (0, (2, 67))] [] H) ∧ (¬ (((H 67 28) = 60 ∨ (H 67 28) = 62 ∨ (H 67 28) = 61 ∨ (H 67 28) = 35 ∨ (H 67 28) = 300 ∨ (H 67 28) = 301)) → xq X d 188 Q 181 [(1, (0, v1)), (0, (2, 67))] [] H))))) : xq X d 188 Q 116 [(1, (0, v1)), (0, (2, 67))] [] H := by
  show xq X d 188 Q 116 [(1, (0, v1)), (0, (2, 67))] [] H
  refine xq_run [4, 49, 57, 65, 77, 85, 109, 113, 116, 136, 139, 144, 173, 181, 191, 217, 221, 224, 235, 242, 245, 250] 300 ?_
  show ((¬ v1 = 4) → xq X d 188 Q 181 [(1, (0, v1)), (0, (2, 67))] [] H) ∧ (¬ (¬ v1 = 4) → ((¬ H 67 27 = 3) → xq X d 188 Q 181 [(1, (0, v1)), (0, (2, 67))] [] H) ∧ (¬ (¬ H 67 27 = 3) → xWM (xE X) xMC d 185 [(0, H 67 28)] xKZ H _))
  refine ⟨fun k_ => ?_, fun k_ => ?_⟩
  · replace h := h.1 k_
    exact h
  · replace h := h.2 k_
    refine ⟨fun k_ => ?_, fun k_ => ?_⟩
    · replace h := h.1 k_
      exact h
    · replace h := h.2 k_
      refine xc_in (s_185 (by omega) (H 67 28) H  ?_)
      replace h := h
      show xq X d 188 Q 136 [(1, (0, v1)), (0, (2, 67))] [(0, xb ((H 67 28) = 60 ∨ (H 67 28) = 62 ∨ (H 67 28) = 61 ∨ (H 67 28) = 35 ∨ (H 67 28) = 300 ∨ (H 67 28) = 301))] H
      refine xq_run [4, 49, 57, 65, 77, 85, 109, 113, 116, 136, 139, 144, 173, 181, 191, 217, 221, 224, 235, 242, 245, 250] 300 ?_
      show ((xb ((H 67 28) = 60 ∨ (H 67 28) = 62 ∨ (H 67 28) = 61 ∨ (H 67 28) = 35 ∨ (H 67 28) = 300 ∨ (H 67 28) = 301) = 0) → xq X d 188 Q 181 [(1, (0, v1)), (0, (2, 67))] [] H) ∧ (¬ (xb ((H 67 28) = 60 ∨ (H 67 28) = 62 ∨ (H 67 28) = 61 ∨ (H 67 28) = 35 ∨ (H 67 28) = 300 ∨ (H 67 28) = 301) = 0) → xq X d 188 Q 139 [(1, (0, v1)), (0, (2, 67))] [] H)
      refine ⟨fun k_ => ?_, fun k_ => ?_⟩
      · replace h := h.2 (xbe_0.mp k_)
        exact h
      · replace h := h.1 (xbe_1.mp k_)
        exact h
theorem U_188_181 {X : Int × (Int → Int)} {d : Nat} {Q : Int → XH → Prop} (hd : 0 ≤ d) (v1 : Int) (H : XH) (h : ((¬ v1 = 5) → xq X d 188 Q 224 [(1, (0, v1)), (0, (2, 67))] [] H) ∧ (¬ (¬ v1 = 5) → (xc X d 183 [(2, 67), (0, 3)] H (fun (J1305 : Int) (h1304 : XH) => ((0 : Int) ≤ h1304 67 32 ∧ (h1304 67 32 : Int) < 41) ∧ (xI ((h1304 67 32) - 1)) ∧ (xc X d 177 [(2, 67), (0, h1304 87 (h1304 67 32)), (0, 0)] (xup h1304 67 32 ((h1304 67 32) - 1)) (fun (J1307 : Int) (h1306 : XH) => (xc X d 186 [(2, 67)] h1306 (fun (J1309 : Int) (h1308 : XH) => Q 0 h1308)))))))) : xq X d 188 Q 181 [(1, (0, v1)), (0, (2, 67))] [] H := by
  show xq X d 188 Q 181 [(1, (0, v1)), (0, (2, 67))] [] H
  refine xq_run [4, 49, 57, 65, 77, 85, 109, 113, 116, 136, 139, 144, 173, 181, 191, 217, 221, 224, 235, 242, 245, 250] 300 ?_
  show ((¬ v1 = 5) → xq X d 188 Q 224 [(1, (0, v1)), (0, (2, 67))] [] H) ∧ (¬ (¬ v1 = 5) → xWM (xE X) xMC d 183 [(2, 67), (0, 3)] xKZ H _)
  refine ⟨fun k_ => ?_, fun k_ => ?_⟩
  · replace h := h.1 k_
    exact h
  · replace h := h.2 k_
    refine xc_in (xc_mono (fun J1305 h1304 q_ => ?_) h)
    replace h := q_
    show xq X d 188 Q 191 [(1, (0, v1)), (0, (2, 67))] [] h1304
    refine xq_run [4, 49, 57, 65, 77, 85, 109, 113, 116, 136, 139, 144, 173, 181, 191, 217, 221, 224, 235, 242, 245, 250] 300 ?_
    show ((0 : Int) ≤ h1304 67 32 ∧ (h1304 67 32 : Int) < 41) ∧ (xI ((h1304 67 32) - 1)) ∧ xWM (xE X) xMC d 177 [(2, 67), (0, h1304 87 (h1304 67 32)), (0, 0)] xKZ (xup h1304 67 32 ((h1304 67 32) - 1)) _
    refine ⟨h.1, ?_⟩
    replace h := h.2
    refine ⟨h.1, ?_⟩
    replace h := h.2
    refine xc_in (xc_mono (fun J1307 h1306 q_ => ?_) h)
    replace h := q_
    show xq X d 188 Q 217 [(2, (0, h1304 87 (h1304 67 32))), (1, (0, v1)), (0, (2, 67))] [] h1306
    refine xq_run [4, 49, 57, 65, 77, 85, 109, 113, 116, 136, 139, 144, 173, 181, 191, 217, 221, 224, 235, 242, 245, 250] 300 ?_
    show xWM (xE X) xMC d 186 [(2, 67)] xKZ h1306 _
    refine xc_in (xc_mono (fun J1309 h1308 q_ => ?_) h)
    replace h := q_
    show xq X d 188 Q 221 [(2, (0, h1304 87 (h1304 67 32))), (1, (0, v1)), (0, (2, 67))] [] h1308
    refine xq_run [4, 49, 57, 65, 77, 85, 109, 113, 116, 136, 139, 144, 173, 181, 191, 217, 221, 224, 235, 242, 245, 250] 300 ?_
    show xq X d 188 Q 250 [(2, (0, h1304 87 (h1304 67 32))), (1, (0, v1)), (0, (2, 67))] [] h1308
    show xq X d 188 Q 250 [(2, (0, h1304 87 (h1304 67 32))), (1, (0, v1)), (0, (2, 67))] [] h1308
    refine xq_run [4, 49, 57, 65, 77, 85, 109, 113, 116, 136, 139, 144, 173, 181, 191, 217, 221, 224, 235, 242, 245, 250] 300 ?_
    show xfR 2 0 ∧ xKZ = xKZ ∧ Q 0 h1308
    exact ⟨trivial, rfl, h⟩
theorem U_188_139 {X : Int × (Int → Int)} {d : Nat} {Q : Int → XH → Prop} (hd : 0 ≤ d) (v1 : Int) (H : XH) (h : (xc X d 183 [(2, 67), (0, 3)] H (fun (J1311 : Int) (h1310 : XH) => ((0 : Int) ≤ h1310 67 32 ∧ (h1310 67 32 : Int) < 41) ∧ (xI ((h1310 67 32) - 1)) ∧ ((0 : Int) ≤ (h1310 67 32) - 1 ∧ ((h1310 67 32) - 1 : Int) < 40) ∧ (xc X d 171 [(2, 67)] (xup (xup h1310 87 (h1310 67 32) (h1310 67 28)) 86 ((h1310 67 32) - 1) 5) (fun (J1313 : Int) (h1312 : XH) => Q 0 (xup h1312 67 38 1)))))) : xq X d 188 Q 139 [(1, (0, v1)), (0, (2, 67))] [] H := by
  show xq X d 188 Q 139 [(1, (0, v1)), (0, (2, 67))] [] H
  refine xq_run [4, 49, 57, 65, 77, 85, 109, 113, 116, 136, 139, 144, 173, 181, 191, 217, 221, 224, 235, 242, 245, 250] 300 ?_
  show xWM (xE X) xMC d 183 [(2, 67), (0, 3)] xKZ H _
  refine xc_in (xc_mono (fun J1311 h1310 q_ => ?_) h)
  replace h := q_
  show xq X d 188 Q 144 [(1, (0, v1)), (0, (2, 67))] [] h1310
  refine xq_run [4, 49, 57, 65, 77, 85, 109, 113, 116, 136, 139, 144, 173, 181, 191, 217, 221, 224, 235, 242, 245, 250] 300 ?_
  show ((0 : Int) ≤ h1310 67 32 ∧ (h1310 67 32 : Int) < 41) ∧ (xI ((h1310 67 32) - 1)) ∧ ((0 : Int) ≤ (h1310 67 32) - 1 ∧ ((h1310 67 32) - 1 : Int) < 40) ∧ xWM (xE X) xMC d 171 [(2, 67)] xKZ (xup (xup h1310 87 (h1310 67 32) (h1310 67 28)) 86 ((h1310 67 32) - 1) 5) _
  refine ⟨h.1, ?_⟩
  replace h := h.2
  refine ⟨h.1, ?_⟩
  replace h := h.2
  refine ⟨h.1, ?_⟩
  replace h := h.2
  refine xc_in (xc_mono (fun J1313 h1312 q_ => ?_) h)
  replace h := q_
  show xq X d 188 Q 173 [(1, (0, v1)), (0, (2, 67))] [] h1312
  refine xq_run [4, 49, 57, 65, 77, 85, 109, 113, 116, 136, 139, 144, 173, 181, 191, 217, 221, 224, 235, 242, 245, 250] 300 ?_
  show xq X d 188 Q 250 [(1, (0, v1)), (0, (2, 67))] [] (xup h1312 67 38 1)
  show xq X d 188 Q 250 [(1, (0, v1)), (0, (2, 67))] [] (xup h1312 67 38 1)
  refine xq_run [4, 49, 57, 65, 77, 85, 109, 113, 116, 136, 139, 144, 173, 181, 191, 217, 221, 224, 235, 242, 245, 250] 300 ?_
  show xfR 2 0 ∧ xKZ = xKZ ∧ Q 0 (xup h1312 67 38 1)
  exact ⟨trivial, rfl, h⟩
theorem U_188_224 {X : Int × (Int → Int)} {d : Nat} {Q : Int → XH → Prop} (hd : 1 ≤ d) (v1 : Int) (H : XH) (h : ((¬ v1 = 1) → xq X d 188 Q 245 [(1, (0, v1)), (0, (2, 67))] [] H) ∧ (¬ (¬ v1 = 1) → ((((H 67 27 = 3 ∧ H 67 28 = 59)) → (xc X d 187 [(2, 67)] H (fun (J1315 : Int) (h1314 : XH) => Q 0 h1314))) ∧ (¬ ((H 67 27 = 3 ∧ H 67 28 = 59)) → xq X d 188 Q 245 [(1, (0, v1)), (0, (2, 67))] [] H)))) : xq X d 188 Q 224 [(1, (0, v1)), (0, (2, 67))] [] H := by
  show xq X d 188 Q 224 [(1, (0, v1)), (0, (2, 67))] [] H
  refine xq_run [4, 49, 57, 65, 77, 85, 109, 113, 116, 136, 139, 144, 173, 181, 191, 217, 221, 224, 235, 242, 245, 250] 300 ?_
  show ((¬ v1 = 1) → xq X d 188 Q 245 [(1, (0, v1)), (0, (2, 67))] [] H) ∧ (¬ (¬ v1 = 1) → xWM (xE X) xMC d 180 [(2, 67), (0, 59)] xKZ H _)
  refine ⟨fun k_ => ?_, fun k_ => ?_⟩
  · replace h := h.1 k_
    exact h
  · replace h := h.2 k_
    refine xc_in (s_180 (by omega) 59 H  ?_)
    replace h := h
    show xq X d 188 Q 235 [(1, (0, v1)), (0, (2, 67))] [(0, xb (H 67 27 = 3 ∧ H 67 28 = 59))] H
    refine xq_run [4, 49, 57, 65, 77, 85, 109, 113, 116, 136, 139, 144, 173, 181, 191, 217, 221, 224, 235, 242, 245, 250] 300 ?_
    show ((xb (H 67 27 = 3 ∧ H 67 28 = 59) = 0) → xq X d 188 Q 245 [(1, (0, v1)), (0, (2, 67))] [] H) ∧ (¬ (xb (H 67 27 = 3 ∧ H 67 28 = 59) = 0) → xWM (xE X) xMC d 187 [(2, 67)] xKZ H _)
    refine ⟨fun k_ => ?_, fun k_ => ?_⟩
    · replace h := h.2 (xbe_0.mp k_)
      exact h
    · replace h := h.1 (xbe_1.mp k_)
      refine xc_in (xc_mono (fun J1315 h1314 q_ => ?_) h)
      replace h := q_
      show xq X d 188 Q 242 [(1, (0, v1)), (0, (2, 67))] [] h1314
      refine xq_run [4, 49, 57, 65, 77, 85, 109, 113, 116, 136, 139, 144, 173, 181, 191, 217, 221, 224, 235, 242, 245, 250] 300 ?_
      show xq X d 188 Q 250 [(1, (0, v1)), (0, (2, 67))] [] h1314
      show xq X d 188 Q 250 [(1, (0, v1)), (0, (2, 67))] [] h1314
      refine xq_run [4, 49, 57, 65, 77, 85, 109, 113, 116, 136, 139, 144, 173, 181, 191, 217, 221, 224, 235, 242, 245, 250] 300 ?_
      show xfR 2 0 ∧ xKZ = xKZ ∧ Q 0 h1314
      exact ⟨trivial, rfl, h⟩
theorem U_188_245 {X : Int × (Int → Int)} {d : Nat} {Q : Int → XH → Prop} (hd : 0 ≤ d) (v1 : Int) (H : XH) (h : (xc X d 173 [(2, 67), (0, 1)] H (fun (J1317 : Int) (h1316 : XH) => Q 0 h1316))) : xq X d 188 Q 245 [(1, (0, v1)), (0, (2, 67))] [] H := by
  show xq X d 188 Q 245 [(1, (0, v1)), (0, (2, 67))] [] H
  refine xq_run [4, 49, 57, 65, 77, 85, 109, 113, 116, 136, 139, 144, 173, 181, 191, 217, 221, 224, 235, 242, 245, 250] 300 ?_
  show xWM (xE X) xMC d 173 [(2, 67), (0, 1)] xKZ H _
  refine xc_in (xc_mono (fun J1317 h1316 q_ => ?_) h)
  replace h := q_
  show xq X d 188 Q 250 [(1, (0, v1)), (0, (2, 67))] [] h1316
  refine xq_run [4, 49, 57, 65, 77, 85, 109, 113, 116, 136, 139, 144, 173, 181, 191, 217, 221, 224, 235, 242, 245, 250] 300 ?_
  show xfR 2 0 ∧ xKZ = xKZ ∧ Q 0 h1316
  exact ⟨trivial, rfl, h⟩

theorem s_188m {X : Int × (Int → Int)} {d : Nat} {Q : Int → XH → Prop} (hd : 9 ≤ d) {t : Int → Int} {H0 : XH} {n T : Int} {B K N E : Int → Int} {i o : Int} {F W : List (Int × Int)} {O : List Int} {C : List (Int × Int)} {h : XH} (cx : cXp t H0 n T B K N E) (L_H : mHp H0 n T B K N E 2 (mNc 2 C) i o F W O C h) (ok : mOk K T (2, i, o, F, W, O, C)) (hQ : ∀ h1, mRl H0 n T B K N E (mS2 K i o F W O C) h1 → Q 0 h1) : xc X d 188 [(2, 67)] h Q := by
  cases d with
  | zero => omega
  | succ d =>
  have hK : K T = 21 := cx.1.2.2.2.2.2.2
  have tk := hT_or hK L_H.2.1
  have iT : ¬ K i = 21 → i < T := fun z => by
    have := L_H.2.1.1
    by_cases y : i = T
    · exact absurd (by rw [y]; exact hK) z
    · omega
  obtain ⟨-, k4, i1, o1, F1, W1, O1, C1, C2, fb⟩ := ok
  have fp : fP F := by
    rcases fb with q | q
    · exact absurd q.1 (by decide)
    · exact q
  have C2 := C2 (by decide)
  cases F with
  | nil => exact absurd rfl fp.1
  | cons p F =>
  have lc : ((p :: F).length : Int) = (F.length : Int) + 1 := rfl
  have lc' : (p :: F).length = F.length + 1 := rfl
  have eL : mLen (p :: F) = (F.length : Int) + 1 := rfl
  have e32 := L_H.2.2.2.2.1.1
  have e31 := L_H.2.2.2.1
  have et := fR_top L_H.2.2.2.2.1.2
  have e86 : h 86 (h 67 32 - 1) = p.1 := by
    rw [e32]
    exact et
  obtain ⟨f1, f2, f3, f4, f5, f6⟩ := tkC tk
  have fl := fun r => mFl_len (d := mLen (p :: F)) (r := r) W O
  have k245 : ∀ v, mS2 K i o (p :: F) W O C = mErr 1 i o (p :: F) W O C → xq X d 188 Q 245 [(1, (0, v)), (0, (2, 67))] [] h := fun v e => by
    rw [e] at hQ
    refine U_188_245 (by omega) v h ?_
    refine s_173m (by omega) _ cx L_H (fun h1338 L_h1338 => ?_)
    exact hQ _ (mRl_er (by decide) L_h1338)
  have k224 : ¬ (34 ≤ K i ∧ K i ≤ 37) → ¬ (p.1 = 6 ∧ K i = 39) → ¬ (p.1 = 4 ∧ ((30 ≤ K i ∧ K i ≤ 33) ∨ K i = 41 ∨ K i = 42)) → ¬ p.1 = 5 → xq X d 188 Q 224 [(1, (0, p.1)), (0, (2, 67))] [] h := fun a1 a2 a3 a4 => by
    have er : ¬ (p.1 = 1 ∧ K i = 40) → mS2 K i o (p :: F) W O C = mErr 1 i o (p :: F) W O C := fun a5 => by
      unfold mS2
      rw [show mTop (p :: F) = p from rfl, if_neg a1, if_neg a2, if_neg a3, if_neg a4, if_neg a5]
    refine U_188_224 (by omega) p.1 h ?_
    refine ⟨fun c1 => ?_, fun c1 => ?_⟩
    · skip
      exact k245 _ (er (fun z => absurd z.1 (by assumption)))
    · skip
      refine ⟨fun c2 => ?_, fun c2 => ?_⟩
      · skip
        have k40 := f6.mp (by assumption)
        refine s_187m (by omega) cx L_H (by omega) (by omega) (by omega) (by omega) ⟨C2, C1⟩ (by unfold mNc; rw [if_neg (by decide)]; omega) (fun h1358 L_h1358 => ?_)
        refine hQ _ ?_
        unfold mS2
        rw [show mTop (p :: F) = p from rfl, if_neg a1, if_neg a2, if_neg a3, if_neg a4, if_pos ⟨(by omega : p.1 = 1), k40⟩]
        unfold mEnd
        refine Or.inl ⟨by decide, ?_⟩
        rw [show mNc 4 C = mNc 2 C + 1 by unfold mNc; rw [if_pos rfl, if_neg (by decide)]; omega]
        exact L_h1358
      · skip
        exact k245 _ (er (fun z => absurd (f6.mpr z.2) (by assumption)))
  have k181 : ¬ (34 ≤ K i ∧ K i ≤ 37) → ¬ (p.1 = 6 ∧ K i = 39) → ¬ (p.1 = 4 ∧ ((30 ≤ K i ∧ K i ≤ 33) ∨ K i = 41 ∨ K i = 42)) → xq X d 188 Q 181 [(1, (0, p.1)), (0, (2, 67))] [] h := fun a1 a2 a3 => by
    refine U_188_181 (by omega) p.1 h ?_
    refine ⟨fun c1 => ?_, fun c1 => ?_⟩
    · skip
      exact k224 a1 a2 a3 (by assumption)
    · skip
      have p5 : p.1 = 5 := by omega
      have fl := fl 3
      refine s_183m (by omega) _ L_H (by omega) (by omega) (by omega) (fun h1368 L_h1368 => ?_)
      have g32 := L_h1368.2.2.2.2.1.1
      have gc := L_h1368.2.2.2.2.1.2.2.1 p5
      refine ⟨?_, ?_⟩
      · first | omega | (unfold xI; omega) | (rw [g32]; omega) | (rw [g32]; unfold xI; omega) | (exfalso; omega)
      refine ⟨?_, ?_⟩
      · first | omega | (unfold xI; omega) | (rw [g32]; omega) | (rw [g32]; unfold xI; omega) | (exfalso; omega)
      refine s_177m (by omega) (x := 10000 + p.2) (by rw [g32, show ((p :: F).length : Int) - 1 = (F.length : Int) by omega]; exact mH_pop L_h1368) (Or.inr (Or.inr (Or.inr (Or.inr (Or.inr (Or.inr (by rw [show 10000 + p.2 - 10000 = p.2 by omega, g32, lc]; exact gc))))))) (by omega) (fun h1370 L_h1370 => ?_)
      refine s_186m (by omega) L_h1370 (fP_tail fp (by omega) (by omega)) (by omega) (by rw [List.length_append]; simp only [List.length_cons, List.length_nil]; omega) (by omega) (fun h1372 L_h1372 => ?_)
      refine hQ _ ?_
      unfold mS2
      rw [show mTop (p :: F) = p from rfl, if_neg a1, if_neg a2, if_neg a3, if_pos p5]
      exact Or.inl ⟨by decide, L_h1372⟩
  have k139 : p.1 = 4 → ((30 ≤ K i ∧ K i ≤ 33) ∨ K i = 41 ∨ K i = 42) → xq X d 188 Q 139 [(1, (0, p.1)), (0, (2, 67))] [] h := fun a1 a2 => by
    have fl := fl 3
    refine U_188_139 (by omega) p.1 h ?_
    refine s_183m (by omega) _ L_H (by omega) (by omega) (by omega) (fun h1388 L_h1388 => ?_)
    have g32 := L_h1388.2.2.2.2.1.1
    have gk := (tkC (hT_or hK L_h1388.2.1)).2.2.2.2.1 a2
    refine ⟨?_, ?_⟩
    · first | omega | (unfold xI; omega) | (rw [g32]; omega) | (rw [g32]; unfold xI; omega) | (exfalso; omega)
    refine ⟨?_, ?_⟩
    · first | omega | (unfold xI; omega) | (rw [g32]; omega) | (rw [g32]; unfold xI; omega) | (exfalso; omega)
    refine ⟨?_, ?_⟩
    · first | omega | (unfold xI; omega) | (rw [g32]; omega) | (rw [g32]; unfold xI; omega) | (exfalso; omega)
    refine s_171m (by omega) cx (by rw [g32, show ((p :: F).length : Int) - 1 = (F.length : Int) by omega, lc]; exact mH_cmp gk L_h1388) (by omega) rfl (fun h1390 L_h1390 => ?_)
    refine hQ _ ?_
    unfold mS2
    rw [if_neg (by omega), if_neg (fun z => absurd (show p.1 = 6 from z.1) (by omega)), if_pos ⟨a1, a2⟩]
    exact Or.inl ⟨by decide, mH_38 _ L_h1390⟩
  have k116 : ¬ (34 ≤ K i ∧ K i ≤ 37) → ¬ (p.1 = 6 ∧ K i = 39) → xq X d 188 Q 116 [(1, (0, p.1)), (0, (2, 67))] [] h := fun a1 a2 => by
    refine U_188_116 (by omega) p.1 h ?_
    refine ⟨fun c1 => ?_, fun c1 => ?_⟩
    · skip
      exact k181 a1 a2 (fun z => by
        have z1 : p.1 = 4 := z.1
        have := f4.mpr z.2
        omega)
    · skip
      refine ⟨fun c2 => ?_, fun c2 => ?_⟩
      · skip
        exact k181 a1 a2 (fun z => by
          have z1 : p.1 = 4 := z.1
          have := f4.mpr z.2
          omega)
      · skip
        refine ⟨fun c3 => ?_, fun c3 => ?_⟩
        · skip
          exact k139 (by omega) (f4.mp ⟨by omega, by omega⟩)
        · skip
          exact k181 a1 a2 (fun z => by
            have z1 : p.1 = 4 := z.1
            have := f4.mpr z.2
            omega)
  have k65 : ¬ (34 ≤ K i ∧ K i ≤ 37) → xq X d 188 Q 65 [(1, (0, p.1)), (0, (2, 67))] [] h := fun a1 => by
    have fl := fl 3
    refine U_188_65 (by omega) p.1 h ?_
    refine ⟨fun c1 => ?_, fun c1 => ?_⟩
    · skip
      exact k116 a1 (fun z => absurd z.1 (by assumption))
    · skip
      refine ⟨fun c2 => ?_, fun c2 => ?_⟩
      · skip
        have k39 := f3.mp (by assumption)
        refine s_183m (by omega) _ L_H (by omega) (by omega) (by omega) (fun h1400 L_h1400 => ?_)
        have g32 := L_h1400.2.2.2.2.1.1
        have g31 := L_h1400.2.2.2.1
        refine ⟨?_, ?_⟩
        · first | omega | (unfold xI; omega) | (rw [g32]; omega) | (rw [g32]; unfold xI; omega) | (rw [g31]; unfold xI; omega) | (exfalso; omega)
        refine ⟨?_, ?_⟩
        · first | omega | (unfold xI; omega) | (rw [g32]; omega) | (rw [g32]; unfold xI; omega) | (rw [g31]; unfold xI; omega) | (exfalso; omega)
        refine s_171m (by omega) cx (by rw [g32, g31, show ((p :: F).length : Int) - 1 = (F.length : Int) by omega]; exact mH_31 (o - 1) (mH_pop L_h1400)) (by omega) rfl (fun h1402 L_h1402 => ?_)
        refine s_179m (by omega) L_h1402 (fP_tail fp (by omega) (by omega)) (by omega) (by omega) (by omega) (fun h1404 L_h1404 => ?_)
        refine hQ _ ?_
        unfold mS2 mOne
        rw [if_neg a1, if_pos ⟨(by omega : p.1 = 6), k39⟩]
        exact Or.inl ⟨by decide, L_h1404⟩
      · skip
        exact k116 a1 (fun z => absurd (f3.mpr z.2) (by assumption))
  refine U_188 (by omega) h ?_
  rw [e86]
  refine ⟨?_, ?_⟩
  · first | omega | (unfold xI; omega) | (exfalso; omega)
  refine ⟨fun c1 => ?_, fun c1 => ?_⟩
  · skip
    exact k65 (fun z => by have := f1.mpr z; omega)
  · skip
    refine ⟨fun c2 => ?_, fun c2 => ?_⟩
    · skip
      have ka := f1.mp ⟨by omega, by omega⟩
      have fw := f2 ka
      refine U_188_49 (by omega) p.1 h ?_
      refine s_184m (by omega) cx L_H fw (by omega) (by omega) (by omega) (by omega) (fun h1412 L_h1412 => ?_)
      refine hQ _ ?_
      unfold mS2
      rw [if_pos ka]
      exact Or.inl ⟨by decide, mH_38 _ L_h1412⟩
    · skip
      refine ⟨fun c3 => ?_, fun c3 => ?_⟩
      · skip
        have ka := f1.mp ⟨by omega, by omega⟩
        have fw := f2 ka
        refine U_188_49 (by omega) p.1 h ?_
        refine s_184m (by omega) cx L_H fw (by omega) (by omega) (by omega) (by omega) (fun h1420 L_h1420 => ?_)
        refine hQ _ ?_
        unfold mS2
        rw [if_pos ka]
        exact Or.inl ⟨by decide, mH_38 _ L_h1420⟩
      · skip
        refine ⟨fun c4 => ?_, fun c4 => ?_⟩
        · skip
          have ka := f1.mp ⟨by omega, by omega⟩
          have fw := f2 ka
          refine U_188_49 (by omega) p.1 h ?_
          refine s_184m (by omega) cx L_H fw (by omega) (by omega) (by omega) (by omega) (fun h1428 L_h1428 => ?_)
          refine hQ _ ?_
          unfold mS2
          rw [if_pos ka]
          exact Or.inl ⟨by decide, mH_38 _ L_h1428⟩
        · skip
          refine ⟨fun c5 => ?_, fun c5 => ?_⟩
          · skip
            exact k65 (fun z => by have := f1.mpr z; omega)
          · skip
            have ka := f1.mp ⟨by omega, by omega⟩
            have fw := f2 ka
            refine U_188_49 (by omega) p.1 h ?_
            refine s_184m (by omega) cx L_H fw (by omega) (by omega) (by omega) (by omega) (fun h1436 L_h1436 => ?_)
            refine hQ _ ?_
            unfold mS2
            rw [if_pos ka]
            exact Or.inl ⟨by decide, mH_38 _ L_h1436⟩

theorem U_189 {X : Int × (Int → Int)} {d : Nat} {Q : Int → XH → Prop} (hd : 1 ≤ d) (H : XH) (h : ((((H 67 27 = 1 ∧ H 67 28 = 4)) → ((((H 67 27 = 1 ∧ H 67 28 = 4)) → (xc X d 184 [(2, 67), (0, 407)] H (fun (J1441 : Int) (h1440 : XH) => Q 0 (xup h1440 67 38 0)))) ∧ (¬ ((H 67 27 = 1 ∧ H 67 28 = 4)) → (xc X d 184 [(2, 67), (0, 406)] H (fun (J1439 : Int) (h1438 : XH) => Q 0 (xup h1438 67 38 0)))))) ∧ (¬ ((H 67 27 = 1 ∧ H 67 28 = 4)) → ((((H 67 27 = 1 ∧ H 67 28 = 5)) → ((((H 67 27 = 1 ∧ H 67 28 = 4)) → (xc X d 184 [(2, 67), (0, 407)] H (fun (J1451 : Int) (h1450 : XH) => Q 0 (xup h1450 67 38 0)))) ∧ (¬ ((H 67 27 = 1 ∧ H 67 28 = 4)) → (xc X d 184 [(2, 67), (0, 406)] H (fun (J1449 : Int) (h1448 : XH) => Q 0 (xup h1448 67 38 0)))))) ∧ (¬ ((H 67 27 = 1 ∧ H 67 28 = 5)) → (1 ≤ H 67 32 ∧ H 67 32 ≤ 40) ∧ (((¬ H 86 (H 67 32 - 1) = 2) → (xc X d 173 [(2, 67), (0, 1)] H (fun (J1443 : Int) (h1442 : XH) => Q 0 h1442))) ∧ (¬ (¬ H 86 (H 67 32 - 1) = 2) → ((((H 67 27 = 3 ∧ H 67 28 = 59)) → (xc X d 187 [(2, 67)] H (fun (J1447 : Int) (h1446 : XH) => Q 0 h1446))) ∧ (¬ ((H 67 27 = 3 ∧ H 67 28 = 59)) → (xc X d 173 [(2, 67), (0, 1)] H (fun (J1445 : Int) (h1444 : XH) => Q 0 h1444))))))))))) : xc X (d + 1) 189 [(2, 67)] H Q := by
  refine ⟨rfl, ?_⟩
  show xq X d 189 Q 100000 [(0, (2, 67))] [] H
  refine xq_run [5, 13, 22, 37, 49, 59, 66, 74] 300 ?_
  show xWM (xE X) xMC d 172 [(2, 67), (0, 4)] xKZ H _
  refine xc_in (s_172 (by omega) 4 H  ?_)
  replace h := h
  show xq X d 189 Q 5 [(0, (2, 67))] [(0, xb (H 67 27 = 1 ∧ H 67 28 = 4))] H
  refine xq_run [5, 13, 22, 37, 49, 59, 66, 74] 300 ?_
  show ((¬ xb (H 67 27 = 1 ∧ H 67 28 = 4) = 0) → xWM (xE X) xMC d 172 [(2, 67), (0, 4)] xKZ H _) ∧ (¬ (¬ xb (H 67 27 = 1 ∧ H 67 28 = 4) = 0) → xWM (xE X) xMC d 172 [(2, 67), (0, 5)] xKZ H _)
  refine ⟨fun k_ => ?_, fun k_ => ?_⟩
  · replace h := h.1 (xbe_1.mp k_)
    refine xc_in (s_172 (by omega) 4 H  ?_)
    replace h := h
    show xq X d 189 Q 22 [(0, (2, 67))] [(0, xb (H 67 27 = 1 ∧ H 67 28 = 4)), (2, 67)] H
    refine xq_run [5, 13, 22, 37, 49, 59, 66, 74] 300 ?_
    show ((xb (H 67 27 = 1 ∧ H 67 28 = 4) = 0) → xWM (xE X) xMC d 184 [(2, 67), (0, 406)] xKZ H _) ∧ (¬ (xb (H 67 27 = 1 ∧ H 67 28 = 4) = 0) → xWM (xE X) xMC d 184 [(2, 67), (0, 407)] xKZ H _)
    refine ⟨fun k_ => ?_, fun k_ => ?_⟩
    · replace h := h.2 (xbe_0.mp k_)
      refine xc_in (xc_mono (fun J1439 h1438 q_ => ?_) h)
      replace h := q_
      show xq X d 189 Q 37 [(0, (2, 67))] [] h1438
      refine xq_run [5, 13, 22, 37, 49, 59, 66, 74] 300 ?_
      show xq X d 189 Q 74 [(0, (2, 67))] [] (xup h1438 67 38 0)
      show xq X d 189 Q 74 [(0, (2, 67))] [] (xup h1438 67 38 0)
      refine xq_run [5, 13, 22, 37, 49, 59, 66, 74] 300 ?_
      show xfR 2 0 ∧ xKZ = xKZ ∧ Q 0 (xup h1438 67 38 0)
      exact ⟨trivial, rfl, h⟩
    · replace h := h.1 (xbe_1.mp k_)
      refine xc_in (xc_mono (fun J1441 h1440 q_ => ?_) h)
      replace h := q_
      show xq X d 189 Q 37 [(0, (2, 67))] [] h1440
      refine xq_run [5, 13, 22, 37, 49, 59, 66, 74] 300 ?_
      show xq X d 189 Q 74 [(0, (2, 67))] [] (xup h1440 67 38 0)
      show xq X d 189 Q 74 [(0, (2, 67))] [] (xup h1440 67 38 0)
      refine xq_run [5, 13, 22, 37, 49, 59, 66, 74] 300 ?_
      show xfR 2 0 ∧ xKZ = xKZ ∧ Q 0 (xup h1440 67 38 0)
      exact ⟨trivial, rfl, h⟩
  · replace h := h.2 (xbe_n.mp k_)
    refine xc_in (s_172 (by omega) 5 H  ?_)
    replace h := h
    show xq X d 189 Q 13 [(0, (2, 67))] [(0, xb (H 67 27 = 1 ∧ H 67 28 = 5))] H
    refine xq_run [5, 13, 22, 37, 49, 59, 66, 74] 300 ?_
    show ((xb (H 67 27 = 1 ∧ H 67 28 = 5) = 0) → xWM (xE X) xMC d 178 [(2, 67)] xKZ H _) ∧ (¬ (xb (H 67 27 = 1 ∧ H 67 28 = 5) = 0) → xWM (xE X) xMC d 172 [(2, 67), (0, 4)] xKZ H _)
    refine ⟨fun k_ => ?_, fun k_ => ?_⟩
    · replace h := h.2 (xbe_0.mp k_)
      refine xc_in (s_178 (by omega) H (h.1) ?_)
      replace h := h.2
      show xq X d 189 Q 49 [(0, (2, 67))] [(0, H 86 (H 67 32 - 1))] H
      refine xq_run [5, 13, 22, 37, 49, 59, 66, 74] 300 ?_
      show ((¬ H 86 (H 67 32 - 1) = 2) → xWM (xE X) xMC d 173 [(2, 67), (0, 1)] xKZ H _) ∧ (¬ (¬ H 86 (H 67 32 - 1) = 2) → xWM (xE X) xMC d 180 [(2, 67), (0, 59)] xKZ H _)
      refine ⟨fun k_ => ?_, fun k_ => ?_⟩
      · replace h := h.1 k_
        refine xc_in (xc_mono (fun J1443 h1442 q_ => ?_) h)
        replace h := q_
        show xq X d 189 Q 74 [(0, (2, 67))] [] h1442
        refine xq_run [5, 13, 22, 37, 49, 59, 66, 74] 300 ?_
        show xfR 2 0 ∧ xKZ = xKZ ∧ Q 0 h1442
        exact ⟨trivial, rfl, h⟩
      · replace h := h.2 k_
        refine xc_in (s_180 (by omega) 59 H  ?_)
        replace h := h
        show xq X d 189 Q 59 [(0, (2, 67))] [(0, xb (H 67 27 = 3 ∧ H 67 28 = 59))] H
        refine xq_run [5, 13, 22, 37, 49, 59, 66, 74] 300 ?_
        show ((xb (H 67 27 = 3 ∧ H 67 28 = 59) = 0) → xWM (xE X) xMC d 173 [(2, 67), (0, 1)] xKZ H _) ∧ (¬ (xb (H 67 27 = 3 ∧ H 67 28 = 59) = 0) → xWM (xE X) xMC d 187 [(2, 67)] xKZ H _)
        refine ⟨fun k_ => ?_, fun k_ => ?_⟩
        · replace h := h.2 (xbe_0.mp k_)
          refine xc_in (xc_mono (fun J1445 h1444 q_ => ?_) h)
          replace h := q_
          show xq X d 189 Q 74 [(0, (2, 67))] [] h1444
          refine xq_run [5, 13, 22, 37, 49, 59, 66, 74] 300 ?_
          show xfR 2 0 ∧ xKZ = xKZ ∧ Q 0 h1444
          exact ⟨trivial, rfl, h⟩
        · replace h := h.1 (xbe_1.mp k_)
          refine xc_in (xc_mono (fun J1447 h1446 q_ => ?_) h)
          replace h := q_
          show xq X d 189 Q 66 [(0, (2, 67))] [] h1446
          refine xq_run [5, 13, 22, 37, 49, 59, 66, 74] 300 ?_
          show xq X d 189 Q 74 [(0, (2, 67))] [] h1446
          show xq X d 189 Q 74 [(0, (2, 67))] [] h1446
          refine xq_run [5, 13, 22, 37, 49, 59, 66, 74] 300 ?_
          show xfR 2 0 ∧ xKZ = xKZ ∧ Q 0 h1446
          exact ⟨trivial, rfl, h⟩
    · replace h := h.1 (xbe_1.mp k_)
      refine xc_in (s_172 (by omega) 4 H  ?_)
      replace h := h
      show xq X d 189 Q 22 [(0, (2, 67))] [(0, xb (H 67 27 = 1 ∧ H 67 28 = 4)), (2, 67)] H
      refine xq_run [5, 13, 22, 37, 49, 59, 66, 74] 300 ?_
      show ((xb (H 67 27 = 1 ∧ H 67 28 = 4) = 0) → xWM (xE X) xMC d 184 [(2, 67), (0, 406)] xKZ H _) ∧ (¬ (xb (H 67 27 = 1 ∧ H 67 28 = 4) = 0) → xWM (xE X) xMC d 184 [(2, 67), (0, 407)] xKZ H _)
      refine ⟨fun k_ => ?_, fun k_ => ?_⟩
      · replace h := h.2 (xbe_0.mp k_)
        refine xc_in (xc_mono (fun J1449 h1448 q_ => ?_) h)
        replace h := q_
        show xq X d 189 Q 37 [(0, (2, 67))] [] h1448
        refine xq_run [5, 13, 22, 37, 49, 59, 66, 74] 300 ?_
        show xq X d 189 Q 74 [(0, (2, 67))] [] (xup h1448 67 38 0)
        show xq X d 189 Q 74 [(0, (2, 67))] [] (xup h1448 67 38 0)
        refine xq_run [5, 13, 22, 37, 49, 59, 66, 74] 300 ?_
        show xfR 2 0 ∧ xKZ = xKZ ∧ Q 0 (xup h1448 67 38 0)
        exact ⟨trivial, rfl, h⟩
      · replace h := h.1 (xbe_1.mp k_)
        refine xc_in (xc_mono (fun J1451 h1450 q_ => ?_) h)
        replace h := q_
        show xq X d 189 Q 37 [(0, (2, 67))] [] h1450
        refine xq_run [5, 13, 22, 37, 49, 59, 66, 74] 300 ?_
        show xq X d 189 Q 74 [(0, (2, 67))] [] (xup h1450 67 38 0)
        show xq X d 189 Q 74 [(0, (2, 67))] [] (xup h1450 67 38 0)
        refine xq_run [5, 13, 22, 37, 49, 59, 66, 74] 300 ?_
        show xfR 2 0 ∧ xKZ = xKZ ∧ Q 0 (xup h1450 67 38 0)
        exact ⟨trivial, rfl, h⟩

theorem s_189m {X : Int × (Int → Int)} {d : Nat} {Q : Int → XH → Prop} (hd : 9 ≤ d) {t : Int → Int} {H0 : XH} {n T : Int} {B K N E : Int → Int} {i o : Int} {F W : List (Int × Int)} {O : List Int} {C : List (Int × Int)} {h : XH} (cx : cXp t H0 n T B K N E) (L_H : mHp H0 n T B K N E 3 (mNc 3 C) i o F W O C h) (ok : mOk K T (3, i, o, F, W, O, C)) (hQ : ∀ h1, mRl H0 n T B K N E (mS3 K i o F W O C) h1 → Q 0 h1) : xc X d 189 [(2, 67)] h Q := by
  cases d with
  | zero => omega
  | succ d =>
  have hK : K T = 21 := cx.1.2.2.2.2.2.2
  have tk := hT_or hK L_H.2.1
  have iT : ¬ K i = 21 → i < T := fun z => by
    have := L_H.2.1.1
    by_cases y : i = T
    · exact absurd (by rw [y]; exact hK) z
    · omega
  obtain ⟨-, k4, i1, o1, F1, W1, O1, C1, C2, fb⟩ := ok
  have fp : fP F := by
    rcases fb with q | q
    · exact absurd q.1 (by decide)
    · exact q
  have C2 := C2 (by decide)
  cases F with
  | nil => exact absurd rfl fp.1
  | cons p F =>
  have lc : ((p :: F).length : Int) = (F.length : Int) + 1 := rfl
  have lc' : (p :: F).length = F.length + 1 := rfl
  have eL : mLen (p :: F) = (F.length : Int) + 1 := rfl
  have e32 := L_H.2.2.2.2.1.1
  have e31 := L_H.2.2.2.1
  have et := fR_top L_H.2.2.2.2.1.2
  have e86 : h 86 (h 67 32 - 1) = p.1 := by
    rw [e32]
    exact et
  obtain ⟨f1, f2, f3⟩ := tkD tk
  refine U_189 (by omega) h ?_
  rw [e86]
  refine ⟨fun c1 => ?_, fun c1 => ?_⟩
  · skip
    refine ⟨fun c2 => ?_, fun c2 => ?_⟩
    · skip
      have kk : K i = 4 := f1.mp (by assumption)
      refine s_184m (by omega) cx L_H (k := 4) (Or.inr (Or.inr (Or.inr (Or.inr (Or.inr ⟨rfl, rfl⟩))))) (by omega) (by omega) (by omega) (by omega) (fun h1454 L_h1454 => ?_)
      refine hQ _ ?_
      unfold mS3
      rw [if_pos (by omega), kk]
      exact Or.inl ⟨by decide, mH_38 _ L_h1454⟩
    · skip
      have kk : K i = 5 := by first | exact f2.mp (by assumption) | (exfalso; omega)
      refine s_184m (by omega) cx L_H (k := 5) (Or.inr (Or.inr (Or.inr (Or.inr (Or.inl ⟨rfl, rfl⟩))))) (by omega) (by omega) (by omega) (by omega) (fun h1452 L_h1452 => ?_)
      refine hQ _ ?_
      unfold mS3
      rw [if_pos (by omega), kk]
      exact Or.inl ⟨by decide, mH_38 _ L_h1452⟩
  · skip
    refine ⟨fun c3 => ?_, fun c3 => ?_⟩
    · skip
      refine ⟨fun c4 => ?_, fun c4 => ?_⟩
      · skip
        have kk : K i = 4 := f1.mp (by assumption)
        refine s_184m (by omega) cx L_H (k := 4) (Or.inr (Or.inr (Or.inr (Or.inr (Or.inr ⟨rfl, rfl⟩))))) (by omega) (by omega) (by omega) (by omega) (fun h1464 L_h1464 => ?_)
        refine hQ _ ?_
        unfold mS3
        rw [if_pos (by omega), kk]
        exact Or.inl ⟨by decide, mH_38 _ L_h1464⟩
      · skip
        have kk : K i = 5 := by first | exact f2.mp (by assumption) | (exfalso; omega)
        refine s_184m (by omega) cx L_H (k := 5) (Or.inr (Or.inr (Or.inr (Or.inr (Or.inl ⟨rfl, rfl⟩))))) (by omega) (by omega) (by omega) (by omega) (fun h1462 L_h1462 => ?_)
        refine hQ _ ?_
        unfold mS3
        rw [if_pos (by omega), kk]
        exact Or.inl ⟨by decide, mH_38 _ L_h1462⟩
    · skip
      refine ⟨?_, ?_⟩
      · first | omega | (unfold xI; omega) | (exfalso; omega)
      refine ⟨fun c5 => ?_, fun c5 => ?_⟩
      · skip
        refine s_173m (by omega) _ cx L_H (fun h1456 L_h1456 => ?_)
        have a1 : ¬ (K i = 4 ∨ K i = 5) := fun z => z.elim (fun y => absurd (f1.mpr y) (by assumption)) (fun y => absurd (f2.mpr y) (by assumption))
        refine hQ _ ?_
        unfold mS3
        rw [if_neg a1, if_neg (fun z => absurd (show p.1 = 2 from z.1) (by assumption))]
        exact mRl_er (by decide) L_h1456
      · skip
        refine ⟨fun c6 => ?_, fun c6 => ?_⟩
        · skip
          have k40 := f3.mp (by assumption)
          refine s_187m (by omega) cx L_H (by omega) (by omega) (by omega) (by omega) ⟨C2, C1⟩ (by unfold mNc; rw [if_neg (by decide)]; omega) (fun h1460 L_h1460 => ?_)
          have a1 : ¬ (K i = 4 ∨ K i = 5) := fun z => z.elim (fun y => absurd (f1.mpr y) (by assumption)) (fun y => absurd (f2.mpr y) (by assumption))
          refine hQ _ ?_
          unfold mS3
          rw [if_neg a1, if_pos ⟨(by omega : p.1 = 2), k40⟩]
          unfold mEnd
          refine Or.inl ⟨by decide, ?_⟩
          rw [show mNc 4 C = mNc 3 C + 1 by unfold mNc; rw [if_pos rfl, if_neg (by decide)]; omega]
          exact L_h1460
        · skip
          refine s_173m (by omega) _ cx L_H (fun h1458 L_h1458 => ?_)
          have a1 : ¬ (K i = 4 ∨ K i = 5) := fun z => z.elim (fun y => absurd (f1.mpr y) (by assumption)) (fun y => absurd (f2.mpr y) (by assumption))
          refine hQ _ ?_
          unfold mS3
          rw [if_neg a1, if_neg (fun z => absurd (f3.mpr z.2) (by assumption))]
          exact mRl_er (by decide) L_h1458
