theorem con_dummy : True := trivial
