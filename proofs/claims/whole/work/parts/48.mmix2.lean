theorem mixBy_MB {msc mtc mmy : Int32} {mbe mmf mh : Int64} {mam mwa mww mmb : Nat → Int32} {msh mpa mgo : Nat → Int64} {us : Int32} (hms : LE4 msc) (hmb : MB mmb) : MB (f_X7_mixBy msc mtc mmy mbe mmf mh mam mwa mww mmb msh mpa mgo us).2.2.2.2.2.2.1 := by
  unfold f_X7_mixBy
  dsimp only
  exact layBest_MB hms hmb
