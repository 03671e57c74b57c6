/-! Walks, printed by wip/whole/gen.py -/
theorem c_X8_image (l : Launch) (dC : Nat → ClassId) (dI : Nat → Nat → Nat) (cI cC cZ : ClassId) (sa : Nat → Nat) (ad : Nat → Nat) (p : PT) (h : HT) (v : VT) (k1 : Int32) (h1 : HT) (v1 : VT) (k2 : Int32) (h2 : HT) (v2 : VT) (r : RT) (d : DT) (y : YT) (q : QT) (x1 : Int32) {res : Int32 × Int32 × HT × VT × Int32 × HT × VT} (hM : M_X8_image h v k1 h1 v1 k2 h2 v2 x1 = some res) : CTi l (dC, dI) [(cI, .int), (cC, .char), (cZ, .boolean)] sa yX8_image wsX8_image (rmd 5) [.ref (ad 0), .int x1] (wX cI cC ad p h v k1 h1 v1 k2 h2 v2 r d y q) (fun (uu : Int32 × HT × VT × Int32 × HT × VT) => (wX cI cC ad p h v uu.1 uu.2.1 uu.2.2.1 uu.2.2.2.1 uu.2.2.2.2.1 uu.2.2.2.2.2 r d y q)) res := by
  unfold M_X8_image at hM
  by_cases hv : x1 = 0
  · exact c_X8_image0 l dC dI cI cC cZ sa ad p h v k1 h1 v1 k2 h2 v2 r d y q x1 hv (if_pp hv hM)
  · exact c_X8_image1 l dC dI cI cC cZ sa ad p h v k1 h1 v1 k2 h2 v2 r d y q x1 hv (if_nn hv hM)
theorem c_X8_restore (l : Launch) (dC : Nat → ClassId) (dI : Nat → Nat → Nat) (cI cC cZ : ClassId) (sa : Nat → Nat) (ad : Nat → Nat) (p : PT) (h : HT) (v : VT) (k1 : Int32) (h1 : HT) (v1 : VT) (k2 : Int32) (h2 : HT) (v2 : VT) (r : RT) (d : DT) (y : YT) (q : QT) (x1 : Int32) {res : Int32 × HT × VT} (hM : M_X8_restore h v k1 h1 v1 k2 h2 v2 x1 = some res) : CTi l (dC, dI) [(cI, .int), (cC, .char), (cZ, .boolean)] sa yX8_restore wsX8_restore (rmd 5) [.ref (ad 0), .int x1] (wX cI cC ad p h v k1 h1 v1 k2 h2 v2 r d y q) (fun (uu : HT × VT) => (wX cI cC ad p uu.1 uu.2 k1 h1 v1 k2 h2 v2 r d y q)) res := by
  unfold M_X8_restore at hM
  by_cases hv : x1 = 0
  · exact c_X8_restore0 l dC dI cI cC cZ sa ad p h v k1 h1 v1 k2 h2 v2 r d y q x1 hv (if_pp hv hM)
  · exact c_X8_restore1 l dC dI cI cC cZ sa ad p h v k1 h1 v1 k2 h2 v2 r d y q x1 hv (if_nn hv hM)
