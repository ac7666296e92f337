variable {l : Launch} {D : va_G} {ad : Nat → Nat} {cd : Nat → ClassId} {adK adV : Nat → Nat} {tF : Nat} {T : TX} {tys : List (ClassId × FieldType)}
theorem c_Reader_isWordL (hT : T.2 ≤ 300) (st : RS) {i : Nat} (hi : i < nJS) {w : List Int32} (hw : sw i = w) : hx_Mz l D (tyH cd) adK adV tF (rdW ad cd T) y_Reader_isWord w_Reader_isWord (rmD 5) [.ref (ad 0), .ref (adK i)] st (fIsW T st w) st := by
  subst hw
  exact c_Reader_isWord hT st hi
theorem c_Reader_takeAllL (hT : T.2 ≤ 300) (st : RS) {i : Nat} (hi : i < nJS) {w : List Int32} (hw : sw i = w) : hx_Mz l D (tyH cd) adK adV tF (rdW ad cd T) y_Reader_takeAll w_Reader_takeAll (rmD 5) [.ref (ad 0), .ref (adK i)] st (fAll T w st).1 (fAll T w st).2 := by
  subst hw
  exact c_Reader_takeAll hT st hi
