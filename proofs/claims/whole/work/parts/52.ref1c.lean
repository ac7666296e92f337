variable {l : Launch} {D : va_G} {bd : Nat → Nat} {ce : Nat → ClassId} {adK adV : Nat → Nat} {tF : Nat} {tys : List (ClassId × FieldType)}
theorem c_Mod_expectWordL (st : MS) (hv : mInv st) {i : Nat} (hi : i < nJS) {w : List Int32} (hw : sw i = w) : hx_Mz l D (tyM ce) adK adV tF (mdW bd ce) y_Mod_expectWord w_Mod_expectWord (rmD 5) [.ref (bd 0), .ref (adK i)] st (mWord w st).1 (mWord w st).2 := by
  subst hw
  exact c_Mod_expectWord st hv hi
