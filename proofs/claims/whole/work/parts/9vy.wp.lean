theorem vy_0 : True := trivial
