theorem layBest_MB {msc mtc mmy : Int32} {mbe mmf : Int64} {mam mwa mww mmb : Nat → Int32} {msh mpa mgo : Nat → Int64} {us : Int32} (hms : LE4 msc) (hmb : MB mmb) : MB (f_X7_layBest msc mtc mmy mbe mmf mam mwa mww mmb msh mpa mgo us).2.2.2.2.2.1 := by
  unfold f_X7_layBest
  dsimp only
  exact (laySet_facts hms (bestL_MB hms _ _ _ _ _ _ _ _ _ _ _ _ _ hmb)).2
def HBEd (msc mtc : Int32) (mam mwa mww : Nat → Int32) : Prop := ∀ (mmy : Int32) (mbe mmf : Int64) (mmb : Nat → Int32) (msh mpa mgo : Nat → Int64) (us : Int32), MB mmb → ¬ (f_X7_layBest msc mtc mmy mbe mmf mam mwa mww mmb msh mpa mgo us).2.1 = 0
