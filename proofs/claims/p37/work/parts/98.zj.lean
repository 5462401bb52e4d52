theorem I_Of {S : Ms} (h : INV S) {f : Int32} {w : Int32} {d : Int32} {k : Int32} (_ : cOf S f w d k = 0) : INV (sOf S f w d k) := INV_wi0 0 h
theorem I_Form {S : Ms} (h : INV S) {f : Int32} {t : Int32} {d : Int32} {k : Int32} (_ : cForm S f t d k = 0) : INV (sForm S f t d k) := INV_wi0 0 h
theorem I_PetOf {S : Ms} (h : INV S) {f : Int32} {w : Int32} (_ : cPetOf S f w = 0) : INV (sPetOf S f w) := INV_wi0 0 h
theorem I_Shown {S : Ms} (h : INV S) {f : Int32} {d : Int32} (_ : cShown S f d = 0) : INV (sShown S f d) := INV_wi0 0 h
theorem I_Display {S : Ms} (h : INV S) {f : Int32} {t : Int32} (_ : cDisplay S f t = 0) : INV (sDisplay S f t) := INV_wi0 0 h
theorem I_Write {S : Ms} (h : INV S) {w : Int64} {t : Int32} (_ : cWrite S w t = 0) : INV (sWrite S w t) := INV_wi0 0 h
theorem I_Loss {S : Ms} (h : INV S) {f : Int32} (_ : cLoss S f = 0) : INV (sLoss S f) := INV_wi0 0 h
theorem I_Cost {S : Ms} (h : INV S) {q : Int32} {f : Int32} (_ : cCost S q f = 0) : INV (sCost S q f) := INV_wi0 0 h
theorem I_Find {S : Ms} (h : INV S) {w : Int64} {p : Int32} {q : Int32} {y : Int32} (_ : cFind S w p q y = 0) : INV (sFind S w p q y) := INV_wi0 0 h
theorem I_Copy {S : Ms} (h : INV S) {s : Int32} {f : Int32} {t : Int32} (_ : cCopy S s f t = 0) : INV (sCopy S s f t) := INV_wi0 0 h
theorem I_Sign {S : Ms} (h : INV S) {f : Int32} (_ : cSign S f = 0) : INV (sSign S f) := INV_wi0 0 h
